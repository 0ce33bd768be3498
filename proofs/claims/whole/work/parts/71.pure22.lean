/-! ===== delivering, both sides ===== -/
theorem hp_R_del {n f : Nat} {C M C' M' : hs_M} (h : hp_R n C M) (ec : ∀ i, i ≠ 0 → i ≠ 2 → i ≠ 3 → i ≠ 46 → i ≠ 38 + f → i ≠ 42 + f → ¬ (6 ≤ i ∧ i < 15) → C' i = C i) (ep : ∀ p, 6 ≤ p → p < 15 → C' p 1 = C p 1) (em : ∀ i j, i ≠ 100 → i ≠ 124 → i ≠ 125 → i ≠ 126 → i ≠ 127 → ¬ (115 ≤ i ∧ i ≤ 123 ∧ j = f) → M' i j = M i j) (em1 : ∀ b, 1 ≤ b → b ≠ 31 → M' 100 b = M 100 b) (hf : f < 4) (hRR : hp_RR f C' M') (hRC : hp_RC C' M') (hRM : hp_RM C' M') : hp_R n C' M' := by
  obtain ⟨⟨⟨a1, a2⟩, ⟨a3, a4⟩, a5⟩, b, c, ⟨np, pr, d⟩, _, _⟩ := h
  have e1 : C' 1 = C 1 := ec 1 (by omega) (by omega) (by omega) (by omega) (by omega) (by omega) (by omega)
  refine ⟨⟨⟨?_, ?_⟩, ⟨?_, ?_⟩, ?_⟩, fun g hg => ?_, fun g hg => ?_, ⟨np, pr, ?_⟩, hRC, hRM⟩
  · rw [e1, em1 1 (by decide) (by decide)]; exact a1
  · rw [em1 1 (by decide) (by decide)]; exact a2
  · rw [e1, em1 2 (by decide) (by decide)]; exact a3
  · rw [em1 2 (by decide) (by decide)]; exact a4
  · rw [e1, em1 3 (by decide) (by decide)]; exact a5
  · exact hp_RS_fr (b g hg) (ec _ (by omega) (by omega) (by omega) (by omega) (by omega) (by omega) (by omega)) (ec _ (by omega) (by omega) (by omega) (by omega) (by omega) (by omega) (by omega)) (ec _ (by omega) (by omega) (by omega) (by omega) (by omega) (by omega) (by omega)) (fun i i1 i2 => em i g (by omega) (by omega) (by omega) (by omega) (by omega) (by omega)) (fun j _ => em _ _ (by omega) (by omega) (by omega) (by omega) (by omega) (by omega))
  · by_cases hgf : g = f
    · subst hgf; exact hRR
    · exact hp_RR_fr (c g hg) (ec _ (by omega) (by omega) (by omega) (by omega) (by omega) (by omega) (by omega)) (ec _ (by omega) (by omega) (by omega) (by omega) (by omega) (by omega) (by omega)) (fun i i1 i2 => by
        by_cases h124 : i = 124
        · omega
        · exact em i g (by omega) (by omega) (by omega) (by omega) (by omega) (by omega))
  · exact hp_RL_fr d (by rw [ec 4 (by omega) (by omega) (by omega) (by omega) (by omega) (by omega) (by omega)]) (ec 5 (by omega) (by omega) (by omega) (by omega) (by omega) (by omega) (by omega)) ep (fun p p1 p2 => ec p (by omega) (by omega) (by omega) (by omega) (by omega) (by omega) (by omega)) (em1 16 (by decide) (by decide)) (fun b => em _ _ (by decide) (by decide) (by decide) (by decide) (by decide) (by omega)) (fun b => em _ _ (by decide) (by decide) (by decide) (by decide) (by decide) (by omega))
/-- the packet is copied, then taken off -/
def hp_E (x1 : Int32) (S : hs_M) : Option (Int32 × hs_M) := hs_b1 (f_X7_off x1 S) (fun S_1 => hp_tl S_1)
theorem hp_m38 {k l : Nat} (hk : k < 8) (hl : l ≤ 17) : ∀ (r n i : Nat) (S : hs_M), r + i = l → S 100 31 = nI l → ∃ S', f_X7_deliver_38 (n + r + 1) (nI k) (nI i) S = hp_E (nI k) S' ∧ (∀ a b, a ≠ 127 → S' a b = S a b) ∧ ∀ j, S' 127 j = if i ≤ j ∧ j < l then S 114 (20 * k + j) else S 127 j
  | 0, n, i, S, h, h1 => by
    have hi : i = l := by omega
    subst hi
    refine ⟨S, ?_, fun _ _ _ => rfl, fun j => by rw [if_neg (by omega)]⟩
    show fb_X7_deliver_38 _ _ _ _ = _
    unfold fb_X7_deliver_38
    rw [h1, if_pos (nI_le (Nat.le_refl i) (by omega))]
    rfl
  | r + 1, n, i, S, h, h1 => by
    have e : f_X7_deliver_38 (n + (r + 1) + 1) (nI k) (nI i) S = f_X7_deliver_38 (n + (r + 1)) (nI k) (nI (i + 1)) (hs_U S 127 i (S 114 (20 * k + i))) := by
      show fb_X7_deliver_38 _ _ _ _ = _
      unfold fb_X7_deliver_38
      rw [h1, if_neg (nI_ge (by omega) (by omega)), hp_20, hp_l, hp_ix (show 20 * k + i < hs_N 114 by show _ < 160; omega), hp_ix (show i < hs_N 127 by show i < 20; omega), hp_l, hp_l, nI_clamp (by omega), nI_clamp (by omega), nI_1]
    obtain ⟨S', s1, s2, s3⟩ := hp_m38 hk hl r n (i + 1) (hs_U S 127 i (S 114 (20 * k + i))) (by omega) (by rw [hp_U2 (by decide)]; exact h1)
    refine ⟨S', e.trans s1, fun a b ha => ?_, fun j => ?_⟩
    · rw [s2 a b ha, hp_U2 ha]
    · rw [s3 j]
      by_cases c1 : i + 1 ≤ j ∧ j < l
      · rw [if_pos c1, if_pos (by omega), hp_U2 (by decide)]
      · rw [if_neg c1]
        by_cases c2 : j = i
        · subst c2
          rw [hp_U1, if_pos (by omega)]
        · rw [hp_U3 c2, if_neg (by omega)]
theorem hp_use {f kd at_ : Nat} (hf : f < 4) (hkd : kd ≤ 4) {S M : hs_M} (h1 : S (38 + f) 1 = M 115 f) (h2 : hp_in (M 115 f) 3) (hbr : f_X7_broken (nI kd) (nI at_) M = some (0, M)) : ∃ u : Int32, (u = 0 ∨ u = 1) ∧ f_X4_hasUseFor (38 + f) (nI kd) S = some (u, S) ∧ (u = 0 → f_X7_deliver_146 (nI at_) (nI f) (nI kd) M = f_X7_deliver_207 M) ∧ (u = 1 → f_X7_deliver_146 (nI at_) (nI f) (nI kd) M = f_X7_deliver_225 (nI at_) (nI f) (nI kd) M) ∧ (u = 1 → kd < 3 → M 115 f = 2) := by
  have h191 : f_X7_deliver_191 (nI at_) (nI f) (nI kd) M = if (3 : Int32) ≤ nI kd then f_X7_deliver_225 (nI at_) (nI f) (nI kd) M else if (2 : Int32) ≤ M 115 f then f_X7_deliver_225 (nI at_) (nI f) (nI kd) M else f_X7_deliver_207 M := by
    unfold f_X7_deliver_191
    rw [hp_ix (show f < hs_N 115 from hf), nI_clamp (show f < 2 ^ 31 by omega)]
  have h146 : f_X7_deliver_146 (nI at_) (nI f) (nI kd) M = if nI kd = (3 : Int32) then (if M 115 f = 0 then f_X7_deliver_207 M else f_X7_deliver_191 (nI at_) (nI f) (nI kd) M) else f_X7_deliver_191 (nI at_) (nI f) (nI kd) M := by
    unfold f_X7_deliver_146
    rw [hbr, hp_b2, if_pos rfl, hp_ix (show f < hs_N 115 from hf), nI_clamp (show f < 2 ^ 31 by omega)]
  have hC : f_X4_hasUseFor (38 + f) (nI kd) S = if nI kd = (4 : Int32) then some (1, S) else if nI kd = (3 : Int32) then (if M 115 f = 0 then some (0, S) else some (1, S)) else (if M 115 f = 2 then some (1, S) else some (0, S)) := by
    unfold f_X4_hasUseFor f_X4_hasUseFor_0 f_X4_hasUseFor_40
    rw [hp_bg1, hp_bg0, h1]
  rw [h146, hC, h191]
  obtain ⟨j, hj, ej⟩ := h2
  by_cases k4 : kd = 4
  · subst k4
    exact ⟨1, Or.inr rfl, rfl, fun w => absurd w (by decide), fun _ => rfl, fun _ w => by omega⟩
  · by_cases k3 : kd = 3
    · subst k3
      rw [if_neg (show ¬ nI 3 = (4 : Int32) by decide), if_pos (show nI 3 = (3 : Int32) from rfl), if_pos (show nI 3 = (3 : Int32) from rfl)]
      by_cases c : M 115 f = 0
      · rw [if_pos c, if_pos c]
        exact ⟨0, Or.inl rfl, rfl, fun _ => rfl, fun w => absurd w (by decide), fun w => absurd w (by decide)⟩
      · rw [if_neg c, if_neg c]
        exact ⟨1, Or.inr rfl, rfl, fun w => absurd w (by decide), fun _ => rfl, fun _ w => by omega⟩
    · have n3 : ¬ (3 : Int32) ≤ nI kd := nI_ge (b := 3) (by omega) (by decide)
      have e4 : ¬ nI kd = (4 : Int32) := fun w => k4 ((nI_eq (b := 4) (by omega) (by decide)).mp w)
      have e3 : ¬ nI kd = (3 : Int32) := fun w => k3 ((nI_eq (b := 3) (by omega) (by decide)).mp w)
      rw [if_neg e4, if_neg e3, if_neg e3, if_neg n3, ej]
      rcases (show j = 0 ∨ j = 1 ∨ j = 2 by omega) with rfl | rfl | rfl
      · exact ⟨0, Or.inl rfl, rfl, fun _ => rfl, fun w => absurd w (by decide), fun w => absurd w (by decide)⟩
      · exact ⟨0, Or.inl rfl, rfl, fun _ => rfl, fun w => absurd w (by decide), fun w => absurd w (by decide)⟩
      · exact ⟨1, Or.inr rfl, rfl, fun w => absurd w (by decide), fun _ => rfl, fun _ _ => rfl⟩
/-- the class's deliver, behind its check -/
def hp_cD (r_6 : Nat) (S_8 : hs_M) : Option ((Nat × Int32) × hs_M) := (if (S_8 r_6 3) = (-1 : Int32) then hs_ix (8 : Int32) (hs_N 46) (hs_ix (8 : Int32) (hs_N 46) (hs_l (hs_U S_8 46 (8 : Int32).toNatClampNeg ((S_8 46 (8 : Int32).toNatClampNeg) + (1 : Int32))) (fun S_26 => some ((2, 0), S_26)))) else hs_l (S_8 r_6 2) (fun x_10 => hs_ix x_10 (hs_N 37) (hs_b2 (f_X4_hasUseFor (38 + x_10.toNatClampNeg) (S_8 r_6 3) S_8) (fun r_14 S_12 => (if r_14 = 0 then hs_ix (9 : Int32) (hs_N 46) (hs_ix (9 : Int32) (hs_N 46) (hs_l (hs_U S_12 46 (9 : Int32).toNatClampNeg ((S_12 46 (9 : Int32).toNatClampNeg) + (1 : Int32))) (fun S_25 => some ((3, 0), S_25)))) else hs_l (S_12 0 6).toNatClampNeg (fun p_15 => hs_kg p_15 1 (hs_b2 (f_X4_take (38 + x_10.toNatClampNeg) r_6 p_15 S_12) (fun r_19 S_17 => (if r_19 = 0 then hs_ix (10 : Int32) (hs_N 46) (hs_ix (10 : Int32) (hs_N 46) (hs_l (hs_U S_17 46 (10 : Int32).toNatClampNeg ((S_17 46 (10 : Int32).toNatClampNeg) + (1 : Int32))) (fun S_24 => some ((4, 0), S_24)))) else hs_b1 (f_X6_keepTrial S_17) (fun S_20 => hs_ix (6 : Int32) (hs_N 46) (hs_ix (6 : Int32) (hs_N 46) (hs_l (hs_U S_20 46 (6 : Int32).toNatClampNeg ((S_20 46 (6 : Int32).toNatClampNeg) + (1 : Int32))) (fun S_22 => (if r_19 = (2 : Int32) then hs_ix (7 : Int32) (hs_N 46) (hs_ix (7 : Int32) (hs_N 46) (hs_l (hs_U S_22 46 (7 : Int32).toNatClampNeg ((S_22 46 (7 : Int32).toNatClampNeg) + (1 : Int32))) (fun S_23 => some ((0, ((S_23 r_6 2) + (4 : Int32))), S_23)))) else some ((0, (S_22 r_6 2)), S_22)))))))))))))))
theorem hp_cDe (x1 : Int32) (S : hs_M) : f_X6_deliver x1 S = hs_b2 (f_X6_isNoPacket x1 S) (fun r_3 S_1 => (if r_3 = 0 then hs_b2 (f_X2_takeOff x1 S_1) (fun r_6 S_4 => hs_kg r_6 3 (hs_b1 (f_X3_read r_6 S_4) (fun S_8 => hp_cD r_6 S_8))) else some ((1, 0), S_1))) := rfl
