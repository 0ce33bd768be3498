/-! ===== the relation ===== -/
def hp_RK (p k : Nat) (Sc Sm : hs_M) : Prop := ∃ l, 1 ≤ l ∧ l ≤ 17 ∧ Sc p 1 = nI l ∧ Sm 113 k = nI l ∧ ∀ i, i < l → Sc (p + 9) i = Sm 114 (20 * k + i) ∧ hp_in (Sm 114 (20 * k + i)) 256
def hp_RL (np : Nat) (pr : Nat → Nat) (Sc Sm : hs_M) : Prop := np ≤ 8 ∧ Sc 4 1 = nI np ∧ Sm 100 16 = nI np ∧ (∀ j, j < 9 → (6 ≤ pr j ∧ pr j < 15) ∧ Sc 5 j = nI (pr j)) ∧ (∀ i j, i < 9 → j < 9 → pr i = pr j → i = j) ∧ ∀ k, k < np → hp_RK (pr k) k Sc Sm
def hp_RP (Sc Sm : hs_M) : Prop := ∃ np pr, hp_RL np pr Sc Sm
def hp_RM (Sc Sm : hs_M) : Prop := ∃ pl pt : Nat, (pl = 2 ∧ pt = 3 ∨ pl = 3 ∧ pt = 2) ∧ Sc 0 5 = nI pl ∧ Sc 0 6 = nI pt ∧ ∀ i, i < 11 → hp_part (Sc pl) i = Sm 124 i
def hp_RC (Sc Sm : hs_M) : Prop := ∀ j, j < 11 → Sc 46 j = Sm 125 j
def hp_RH (Sc Sm : hs_M) : Prop := (Sc 1 0 = Sm 100 1 ∧ hp_in (Sm 100 1) 65536) ∧ (Sc 1 1 = Sm 100 2 ∧ hp_in (Sm 100 2) 128) ∧ Sc 1 2 = Sm 100 3
def hp_R (n : Nat) (Sc Sm : hs_M) : Prop := hp_RH Sc Sm ∧ (∀ f, f < 4 → hp_RS n f Sc Sm) ∧ (∀ f, f < 4 → hp_RR f Sc Sm) ∧ hp_RP Sc Sm ∧ hp_RC Sc Sm ∧ hp_RM Sc Sm
theorem hp_RK_fr {p k : Nat} {Sc Sm Sc' Sm' : hs_M} (h : hp_RK p k Sc Sm) (e1 : Sc' p 1 = Sc p 1) (e2 : Sc' (p + 9) = Sc (p + 9)) (e3 : Sm' 113 k = Sm 113 k) (e4 : ∀ b, 20 * k ≤ b → b < 20 * k + 20 → Sm' 114 b = Sm 114 b) : hp_RK p k Sc' Sm' := by
  obtain ⟨l, l1, l2, l3, l4, l5⟩ := h
  refine ⟨l, l1, l2, by rw [e1]; exact l3, by rw [e3]; exact l4, fun i hi => ?_⟩
  rw [e2, e4 _ (by omega) (by omega)]
  exact l5 i hi
theorem hp_RL_fr {np : Nat} {pr : Nat → Nat} {Sc Sm Sc' Sm' : hs_M} (h : hp_RL np pr Sc Sm) (e1 : Sc' 4 1 = Sc 4 1) (e2 : Sc' 5 = Sc 5) (e3 : ∀ p, 6 ≤ p → p < 15 → Sc' p 1 = Sc p 1) (e4 : ∀ p, 15 ≤ p → p < 24 → Sc' p = Sc p) (m1 : Sm' 100 16 = Sm 100 16) (m2 : ∀ b, Sm' 113 b = Sm 113 b) (m3 : ∀ b, Sm' 114 b = Sm 114 b) : hp_RL np pr Sc' Sm' := by
  obtain ⟨a, b, c, d, e, g⟩ := h
  refine ⟨a, by rw [e1]; exact b, by rw [m1]; exact c, fun j hj => ⟨(d j hj).1, by rw [e2]; exact (d j hj).2⟩, e, fun k hk => ?_⟩
  have hp := (d k (by omega)).1
  exact hp_RK_fr (g k hk) (e3 _ hp.1 hp.2) (e4 _ (by omega) (by omega)) (m2 k) (fun b _ _ => m3 b)
theorem hp_R_fr {n : Nat} {Sc Sm Sc' Sm' : hs_M} (h : hp_R n Sc Sm) (ec : ∀ i, i ≠ 1 → i ≠ 47 → Sc' i = Sc i) (e1 : ∀ b, b < 3 → Sc' 1 b = Sc 1 b) (em : ∀ i b, i ≠ 100 → i ≠ 126 → i ≠ 127 → Sm' i b = Sm i b) (e2 : ∀ b, 1 ≤ b → b ≠ 31 → Sm' 100 b = Sm 100 b) : hp_R n Sc' Sm' := by
  obtain ⟨⟨⟨a1, a2⟩, ⟨a3, a4⟩, a5⟩, b, c, ⟨np, pr, d⟩, e, ⟨pl, pt, g1, g2, g3, g4⟩⟩ := h
  refine ⟨⟨⟨?_, ?_⟩, ⟨?_, ?_⟩, ?_⟩, fun f hf => ?_, fun f hf => ?_, ⟨np, pr, ?_⟩, fun j hj => ?_, ⟨pl, pt, g1, ?_, ?_, fun i hi => ?_⟩⟩
  · rw [e1 0 (by decide), e2 1 (by decide) (by decide)]; exact a1
  · rw [e2 1 (by decide) (by decide)]; exact a2
  · rw [e1 1 (by decide), e2 2 (by decide) (by decide)]; exact a3
  · rw [e2 2 (by decide) (by decide)]; exact a4
  · rw [e1 2 (by decide), e2 3 (by decide) (by decide)]; exact a5
  · exact hp_RS_fr (b f hf) (ec _ (by omega) (by omega)) (ec _ (by omega) (by omega)) (ec _ (by omega) (by omega)) (fun i i1 i2 => em i f (by omega) (by omega) (by omega)) (fun j _ => em _ _ (by omega) (by omega) (by omega))
  · exact hp_RR_fr (c f hf) (ec _ (by omega) (by omega)) (ec _ (by omega) (by omega)) (fun i i1 i2 => em i f (by omega) (by omega) (by omega))
  · exact hp_RL_fr d (by rw [ec 4 (by omega) (by omega)]) (ec 5 (by omega) (by omega)) (fun p p1 p2 => by rw [ec p (by omega) (by omega)]) (fun p p1 p2 => ec p (by omega) (by omega)) (e2 16 (by decide) (by decide)) (fun b => em _ _ (by decide) (by decide) (by decide)) (fun b => em _ _ (by decide) (by decide) (by decide))
  · rw [ec 46 (by omega) (by omega), em 125 j (by decide) (by decide) (by decide)]; exact e j hj
  · rw [ec 0 (by omega) (by omega)]; exact g2
  · rw [ec 0 (by omega) (by omega)]; exact g3
  · rw [ec pl (by omega) (by omega), em 124 i (by decide) (by decide) (by decide)]; exact g4 i hi
theorem hp_R_up {n : Nat} {Sc Sm : hs_M} (h : hp_R n Sc Sm) : hp_R (n + 1) Sc Sm := ⟨h.1, fun f hf => hp_RS_up (h.2.1 f hf), h.2.2.1, h.2.2.2.1, h.2.2.2.2.1, h.2.2.2.2.2⟩
/-! checks of arguments -/
theorem hp_flow (x : Int32) : (∃ f, f < 4 ∧ x = nI f ∧ (∀ S, f_X6_isNoFlow x S = some (0, S)) ∧ ∀ S, f_X7_noFlow x S = some (0, S)) ∨ ((∀ S, f_X6_isNoFlow x S = some (1, S)) ∧ ∀ S, f_X7_noFlow x S = some (1, S)) := by
  unfold f_X6_isNoFlow f_X6_isNoFlow_0 f_X6_isNoFlow_9 f_X6_isNoFlow_14 f_X7_noFlow f_X7_noFlow_0 f_X7_noFlow_9 f_X7_noFlow_14
  simp only [hp_bg0, hp_bg1]
  rcases pk_ix x (n := 4) (by decide) with h | h | ⟨f, hf, rfl⟩
  · simp only [if_pos h]
    exact Or.inr ⟨fun _ => trivial, fun _ => trivial⟩
  · have h2 : ¬ x < 0 := fun w => by
      rw [Int32.lt_iff_toInt_lt] at w
      rw [Int32.le_iff_toInt_le, nI_toInt (by decide)] at h
      simp at w
      omega
    have h3 : ¬ x < 4 := fun w => by
      rw [Int32.lt_iff_toInt_lt] at w
      rw [Int32.le_iff_toInt_le, nI_toInt (by decide)] at h
      have e : (4 : Int32).toInt = 4 := rfl
      omega
    have h4 : ¬ x ≤ 3 := fun w => by
      rw [Int32.le_iff_toInt_le] at w
      rw [Int32.le_iff_toInt_le, nI_toInt (by decide)] at h
      have e : (3 : Int32).toInt = 3 := rfl
      omega
    simp only [if_neg h2, if_neg h3, if_neg h4]
    exact Or.inr ⟨fun _ => trivial, fun _ => trivial⟩
  · simp only [if_neg (nI_pos (show f < 2 ^ 31 by omega)), if_pos (show nI f < 4 from nI_lt (b := 4) hf (by decide)), if_pos (show nI f ≤ 3 from nI_le (b := 3) (by omega) (by decide))]
    exact Or.inl ⟨f, hf, rfl, fun _ => trivial, fun _ => trivial⟩
theorem hp_two (x : Int32) : (hp_in x 65536 ∧ (∀ S, f_X6_isNotInTwoBytes x S = some (0, S)) ∧ ∀ S, f_X7_outside x S = some (0, S)) ∨ ((∀ S, f_X6_isNotInTwoBytes x S = some (1, S)) ∧ ∀ S, f_X7_outside x S = some (1, S)) := by
  unfold f_X6_isNotInTwoBytes f_X6_isNotInTwoBytes_0 f_X6_isNotInTwoBytes_10 f_X6_isNotInTwoBytes_15 f_X7_outside f_X7_outside_0 f_X7_outside_10 f_X7_outside_15
  simp only [hp_bg0, hp_bg1]
  by_cases h : x < 0
  · simp only [if_pos h]
    exact Or.inr ⟨fun _ => trivial, fun _ => trivial⟩
  · by_cases h2 : x ≤ 65535
    · simp only [if_neg h, if_pos h2]
      exact Or.inl ⟨hp_of (n := 65535) rfl h h2, fun _ => trivial, fun _ => trivial⟩
    · simp only [if_neg h, if_neg h2]
      exact Or.inr ⟨fun _ => trivial, fun _ => trivial⟩
theorem hp_thrown (S : hs_M) : f_X7_thrown S = some (S 100 0, S) := rfl
/-! the reference lays a packet on the line -/
theorem hp_m444 (x9 : Int32) {np l : Nat} (hnp : np < 8) (hl : l ≤ 17) : ∀ (r n i : Nat) (S : hs_M), r + i = l → S 100 31 = nI l → S 100 16 = nI np → ∃ S', f_X7_send_444 (n + r + 1) x9 (nI i) S = some (x9, S') ∧ S' 100 16 = nI (np + 1) ∧ (∀ j, i ≤ j → j < l → S' 114 (20 * np + j) = S 127 j) ∧ (∀ b, (b < 20 * np + i ∨ 20 * np + l ≤ b) → S' 114 b = S 114 b) ∧ (∀ a b, a ≠ 114 → (a ≠ 100 ∨ b ≠ 16) → S' a b = S a b)
  | 0, n, i, S, h, h1, h2 => by
    have hi : i = l := by omega
    subst hi
    refine ⟨hs_U S 100 16 (nI (np + 1)), ?_, hp_U1, fun j j1 j2 => by omega, fun b _ => ?_, fun a b q1 q2 => ?_⟩
    · show fb_X7_send_444 _ _ _ _ = _
      unfold fb_X7_send_444
      rw [h1, if_pos (nI_le (Nat.le_refl i) (by omega)), hp_l, h2, nI_1]
    · (repeat (first | rw [hp_U1] | rw [hp_U2 (by omega)] | rw [hp_U3 (by omega)]))
    · by_cases ha : a = 100
      · have hb : b ≠ 16 := by omega
        (repeat (first | rw [hp_U1] | rw [hp_U2 (by omega)] | rw [hp_U3 (by omega)]))
      · (repeat (first | rw [hp_U1] | rw [hp_U2 (by omega)] | rw [hp_U3 (by omega)]))
  | r + 1, n, i, S, h, h1, h2 => by
    have e4 : (20 : Int32) * nI np + nI i = nI (20 * np + i) := by rw [show (20 : Int32) = nI 20 from rfl, pk_mul, nI_add]
    have e : f_X7_send_444 (n + (r + 1) + 1) x9 (nI i) S = f_X7_send_444 (n + (r + 1)) x9 (nI (i + 1)) (hs_U S 114 (20 * np + i) (S 127 i)) := by
      show fb_X7_send_444 _ _ _ _ = _
      unfold fb_X7_send_444
      rw [h1, if_neg (nI_ge (by omega) (by omega)), h2, e4, hp_ix (show i < hs_N 127 by show i < 20; omega), hp_ix (show 20 * np + i < hs_N 114 by show _ < 160; omega), hp_l, hp_l, nI_clamp (by omega), nI_clamp (by omega), nI_1]
    have w1 : hs_U S 114 (20 * np + i) (S 127 i) 100 31 = nI l := by (repeat (first | rw [hp_U1] | rw [hp_U2 (by omega)] | rw [hp_U3 (by omega)])); exact h1
    have w2 : hs_U S 114 (20 * np + i) (S 127 i) 100 16 = nI np := by (repeat (first | rw [hp_U1] | rw [hp_U2 (by omega)] | rw [hp_U3 (by omega)])); exact h2
    obtain ⟨S', s1, s2, s3, s4, s5⟩ := hp_m444 x9 hnp hl r n (i + 1) _ (by omega) w1 w2
    refine ⟨S', e.trans s1, s2, fun j j1 j2 => ?_, fun b hb => ?_, fun a b q1 q2 => ?_⟩
    · by_cases hj : j = i
      · subst hj
        rw [s4 _ (by omega), hp_U1]
      · rw [s3 j (by omega) j2]
        (repeat (first | rw [hp_U1] | rw [hp_U2 (by omega)] | rw [hp_U3 (by omega)]))
    · rw [s4 b (by omega)]
      (repeat (first | rw [hp_U1] | rw [hp_U2 (by omega)] | rw [hp_U3 (by omega)]))
    · rw [s5 a b q1 q2]
      (repeat (first | rw [hp_U1] | rw [hp_U2 (by omega)] | rw [hp_U3 (by omega)]))
