/-! ===== sending: the state, the context, the kind ===== -/
theorem hp_RS_enter {n f : Nat} {Sc Sm : hs_M} (h : hp_RS n f Sc Sm) {x : Int32} (hx : hp_in x 3) : hp_RS n f (hs_U (hs_U Sc (25 + f) 2 x) (25 + f) 3 0) (hs_U (hs_U Sm 108 f x) 109 f 0) := by
  obtain ⟨⟨a1, a2⟩, ⟨b1, b2⟩, c, d, ⟨g1, g2⟩, ⟨x0, x1, x2, x3, x4⟩, ⟨k, k1, k2, k3, k4⟩⟩ := h
  refine ⟨⟨?_, ?_⟩, ⟨?_, ?_⟩, ?_, ?_, ⟨?_, ?_⟩, ⟨?_, ?_, ?_, ?_, ?_⟩, ⟨k, k1, ?_, ?_, fun j hj => ?_⟩⟩
  · (repeat (first | rw [hp_U1] | rw [hp_U2 (by omega)] | rw [hp_U3 (by omega)])); exact a1
  · (repeat (first | rw [hp_U1] | rw [hp_U2 (by omega)] | rw [hp_U3 (by omega)])); exact a2
  · (repeat (first | rw [hp_U1] | rw [hp_U2 (by omega)] | rw [hp_U3 (by omega)]))
  · (repeat (first | rw [hp_U1] | rw [hp_U2 (by omega)] | rw [hp_U3 (by omega)])); exact hx
  · (repeat (first | rw [hp_U1] | rw [hp_U2 (by omega)] | rw [hp_U3 (by omega)]))
  · (repeat (first | rw [hp_U1] | rw [hp_U2 (by omega)] | rw [hp_U3 (by omega)])); exact d
  · (repeat (first | rw [hp_U1] | rw [hp_U2 (by omega)] | rw [hp_U3 (by omega)])); exact g1
  · (repeat (first | rw [hp_U1] | rw [hp_U2 (by omega)] | rw [hp_U3 (by omega)])); exact g2
  · (repeat (first | rw [hp_U1] | rw [hp_U2 (by omega)] | rw [hp_U3 (by omega)])); exact x0
  · (repeat (first | rw [hp_U1] | rw [hp_U2 (by omega)] | rw [hp_U3 (by omega)])); exact x1
  · (repeat (first | rw [hp_U1] | rw [hp_U2 (by omega)] | rw [hp_U3 (by omega)])); exact x2
  · (repeat (first | rw [hp_U1] | rw [hp_U2 (by omega)] | rw [hp_U3 (by omega)])); exact x3
  · (repeat (first | rw [hp_U1] | rw [hp_U2 (by omega)] | rw [hp_U3 (by omega)])); exact x4
  · (repeat (first | rw [hp_U1] | rw [hp_U2 (by omega)] | rw [hp_U3 (by omega)])); exact k2
  · (repeat (first | rw [hp_U1] | rw [hp_U2 (by omega)] | rw [hp_U3 (by omega)])); exact k3
  · (repeat (first | rw [hp_U1] | rw [hp_U2 (by omega)] | rw [hp_U3 (by omega)])); exact k4 j hj
/-- the context follows the head -/
def hp_cF (f : Nat) (S : hs_M) (a t w ph of : Int32) : hs_M := hs_U (hs_U (hs_U (hs_U (hs_U (hs_U S (29 + f) 0 a) (29 + f) 1 t) (29 + f) 2 w) (29 + f) 3 ph) (29 + f) 4 of) (25 + f) 5 1
def hp_mF (f : Nat) (S : hs_M) (a t w ph of : Int32) : hs_M := hs_U (hs_U (hs_U (hs_U (hs_U (hs_U S 102 f 1) 103 f a) 104 f t) 105 f w) 106 f ph) 107 f of
theorem hp_RS_follow {n f : Nat} {Sc Sm : hs_M} (h : hp_RS n f Sc Sm) (a t w ph of : Int32) : hp_RS n f (hp_cF f Sc a t w ph of) (hp_mF f Sm a t w ph of) := by
  obtain ⟨⟨a1, a2⟩, ⟨b1, b2⟩, c, d, ⟨g1, g2⟩, ⟨x0, x1, x2, x3, x4⟩, ⟨k, k1, k2, k3, k4⟩⟩ := h
  unfold hp_cF hp_mF
  refine ⟨⟨?_, ?_⟩, ⟨?_, ?_⟩, ?_, ?_, ⟨?_, ?_⟩, ⟨?_, ?_, ?_, ?_, ?_⟩, ⟨k, k1, ?_, ?_, fun j hj => ?_⟩⟩
  · (repeat (first | rw [hp_U1] | rw [hp_U2 (by omega)] | rw [hp_U3 (by omega)])); exact a1
  · (repeat (first | rw [hp_U1] | rw [hp_U2 (by omega)] | rw [hp_U3 (by omega)])); exact a2
  · (repeat (first | rw [hp_U1] | rw [hp_U2 (by omega)] | rw [hp_U3 (by omega)])); exact b1
  · (repeat (first | rw [hp_U1] | rw [hp_U2 (by omega)] | rw [hp_U3 (by omega)])); exact b2
  · (repeat (first | rw [hp_U1] | rw [hp_U2 (by omega)] | rw [hp_U3 (by omega)])); exact c
  · (repeat (first | rw [hp_U1] | rw [hp_U2 (by omega)] | rw [hp_U3 (by omega)])); exact d
  · (repeat (first | rw [hp_U1] | rw [hp_U2 (by omega)] | rw [hp_U3 (by omega)]))
  · (repeat (first | rw [hp_U1] | rw [hp_U2 (by omega)] | rw [hp_U3 (by omega)])); exact Or.inr rfl
  · (repeat (first | rw [hp_U1] | rw [hp_U2 (by omega)] | rw [hp_U3 (by omega)]))
  · (repeat (first | rw [hp_U1] | rw [hp_U2 (by omega)] | rw [hp_U3 (by omega)]))
  · (repeat (first | rw [hp_U1] | rw [hp_U2 (by omega)] | rw [hp_U3 (by omega)]))
  · (repeat (first | rw [hp_U1] | rw [hp_U2 (by omega)] | rw [hp_U3 (by omega)]))
  · (repeat (first | rw [hp_U1] | rw [hp_U2 (by omega)] | rw [hp_U3 (by omega)]))
  · (repeat (first | rw [hp_U1] | rw [hp_U2 (by omega)] | rw [hp_U3 (by omega)])); exact k2
  · (repeat (first | rw [hp_U1] | rw [hp_U2 (by omega)] | rw [hp_U3 (by omega)])); exact k3
  · (repeat (first | rw [hp_U1] | rw [hp_U2 (by omega)] | rw [hp_U3 (by omega)])); exact k4 j hj
theorem hp_smallest {n f : Nat} (hf : f < 4) (hn : n ≤ 1000) {Sc Sm : hs_M} (h : hp_RN n f Sc Sm) (hmk : Sc 1 2 = Sm 100 3) : ∃ k, k ≤ 3 ∧ f_X5_smallestKind (25 + f) 1 Sc = some (nI k, Sc) ∧ (if Sm 100 3 = 0 then hs_b2 (f_X7_enough (nI f) (0 : Int32) (Sc 1 3) Sm) (fun r_3 S_1 => (if r_3 = 0 then f_X7_choose_44 (nI f) (Sc 1 3) S_1 else some ((0 : Int32), S_1))) else f_X7_choose_44 (nI f) (Sc 1 3) Sm) = some (nI k, Sm) := by
  obtain ⟨b0, p0, c0, m0⟩ := hp_enough hf hn h (kd := 0) (by decide) (Sc 1 3)
  obtain ⟨b1, p1, c1, m1⟩ := hp_enough hf hn h (kd := 1) (by decide) (Sc 1 3)
  obtain ⟨b2, p2, c2, m2⟩ := hp_enough hf hn h (kd := 2) (by decide) (Sc 1 3)
  have c0 : f_X5_isEnough (25 + f) 0 (Sc 1 3) Sc = some (b0, Sc) := c0
  have c1 : f_X5_isEnough (25 + f) 1 (Sc 1 3) Sc = some (b1, Sc) := c1
  have c2 : f_X5_isEnough (25 + f) 2 (Sc 1 3) Sc = some (b2, Sc) := c2
  have m0 : f_X7_enough (nI f) 0 (Sc 1 3) Sm = some (b0, Sm) := m0
  have m1 : f_X7_enough (nI f) 1 (Sc 1 3) Sm = some (b1, Sm) := m1
  have m2 : f_X7_enough (nI f) 2 (Sc 1 3) Sm = some (b2, Sm) := m2
  have h44 : ∃ k, k ≤ 3 ∧ f_X5_smallestKind_21 (25 + f) 1 Sc = some (nI k, Sc) ∧ f_X7_choose_44 (nI f) (Sc 1 3) Sm = some (nI k, Sm) := by
    unfold f_X5_smallestKind_21 f_X5_smallestKind_52 f_X7_choose_44 f_X7_choose_73
    rw [c1, m1, hp_b2, hp_b2]
    by_cases d1 : b1 = 0
    · rw [if_pos d1, if_pos d1, c2, m2, hp_b2, hp_b2]
      by_cases d2 : b2 = 0
      · rw [if_pos d2, if_pos d2]
        exact ⟨3, by decide, rfl, rfl⟩
      · rw [if_neg d2, if_neg d2]
        exact ⟨2, by decide, rfl, rfl⟩
    · rw [if_neg d1, if_neg d1]
      exact ⟨1, by decide, rfl, rfl⟩
  unfold f_X5_smallestKind f_X5_smallestKind_0
  rw [hmk]
  by_cases d : Sm 100 3 = 0
  · rw [if_pos d, if_pos d, c0, m0, hp_b2, hp_b2]
    by_cases d0 : b0 = 0
    · rw [if_pos d0, if_pos d0]
      exact h44
    · rw [if_neg d0, if_neg d0]
      exact ⟨0, by decide, rfl, rfl⟩
  · rw [if_neg d, if_neg d]
    exact h44
/-- the reference's send, from its first checks on, and from its kind on -/
def hp_M35 (x1 x2 x3 x4 : Int32) (S_1 : hs_M) : Option (Int32 × hs_M) := (if (S_1 100 0) = 0 then hs_ix x1 (hs_N 101) (hs_l (x3 - (x2 * (S_1 101 x1.toNatClampNeg))) (fun x_2 => hs_l ((x4 - x2) &&& (65535 : Int32)) (fun x_3 => hs_ix x1 (hs_N 102) ((if (S_1 102 x1.toNatClampNeg) = 0 then f_X7_send_122  x1 x2 x3 x4 x_2 x_3 S_1 else hs_ix x1 (hs_N 103) ((if (S_1 103 x1.toNatClampNeg) = (S_1 100 1) then hs_ix x1 (hs_N 104) ((if (S_1 104 x1.toNatClampNeg) = (S_1 100 2) then hs_ix x1 (hs_N 105) (hs_ix x1 (hs_N 101) ((if (S_1 105 x1.toNatClampNeg) = (S_1 101 x1.toNatClampNeg) then f_X7_send_123  x1 x2 x3 x4 x_2 x_3 (1 : Int32) S_1 else f_X7_send_122  x1 x2 x3 x4 x_2 x_3 S_1))) else f_X7_send_122  x1 x2 x3 x4 x_2 x_3 S_1)) else f_X7_send_122  x1 x2 x3 x4 x_2 x_3 S_1))))))) else some ((0 : Int32), S_1))
theorem hp_M35e (x1 x2 x3 x4 y : Int32) (S : hs_M) : f_X7_send_35 x1 x2 x3 x4 y S = hp_M35 x1 x2 x3 x4 (hs_U S 100 0 y) := rfl
def hp_T (x1 x2 x3 x4 r_9 : Int32) (S_7 : hs_M) : Option (Int32 × hs_M) := hs_b1 (f_X7_fill (S_7 100 1) (S_7 100 2) (S_7 100 3) x2 x3 x4 S_7) (fun S_10 => hs_b1 (f_X7_write x1 r_9 x2 S_10) (fun S_12 => hs_ix r_9 (hs_N 125) (hs_ix r_9 (hs_N 125) (hs_l (hs_U S_12 125 r_9.toNatClampNeg ((S_12 125 r_9.toNatClampNeg) + (1 : Int32))) (fun S_14 => hs_ix (5 : Int32) (hs_N 125) (hs_ix (5 : Int32) (hs_N 125) (hs_l (hs_U S_14 125 (5 : Int32).toNatClampNeg ((S_14 125 (5 : Int32).toNatClampNeg) + (S_14 100 31))) (fun S_15 => (if r_9 = (4 : Int32) then f_X7_send_362  x1 x2 r_9 x1 (0 : Int32) S_15 else hs_ix x1 (hs_N 110) (f_X7_send_362  x1 x2 r_9 x1 ((S_15 110 x1.toNatClampNeg) + (1 : Int32)) S_15))))))))))
theorem hp_m224 {f : Nat} (hf : f < 4) (x2 x3 x4 x5 x6 : Int32) (S : hs_M) : f_X7_send_224 (nI f) x2 x3 x4 x5 x6 S = hs_b2 (f_X7_choose (nI f) x2 (hp_mF f S (S 100 1) (S 100 2) (S 101 f) x5 x6)) (fun r_9 S_7 => hp_T (nI f) x2 x3 x4 r_9 S_7) := by
  unfold f_X7_send_224 hp_mF hp_T
  rw [hp_ix (show f < hs_N 102 from hf), hp_bg1, hp_l, hp_ix (show f < hs_N 103 from hf), hp_l, hp_ix (show f < hs_N 104 from hf), hp_l, hp_ix (show f < hs_N 101 from hf), hp_ix (show f < hs_N 105 from hf), hp_l, hp_ix (show f < hs_N 106 from hf), hp_l, hp_ix (show f < hs_N 107 from hf), hp_l, nI_clamp (by omega)]
  rfl
theorem hp_c76 {n f : Nat} (hf : f < 4) (hn : n ≤ 1000) {Sc Sm : hs_M} (h : hp_RS n f Sc Sm) (h0 : Sc 1 0 = Sm 100 1) (h1 : Sc 1 1 = Sm 100 2) (h2 : Sc 1 2 = Sm 100 3) : ∃ k Sc' Sm', k ≤ 4 ∧ f_X5_chooseKind_76 (25 + f) 1 Sc = some (nI k, Sc') ∧ f_X7_send_224 (nI f) (Sc 1 3) (Sc 1 4) (Sc 1 5) (Sc 1 4 - Sc 1 3 * Sm 101 f) ((Sc 1 5 - Sc 1 3) &&& 65535) Sm = hp_T (nI f) (Sc 1 3) (Sc 1 4) (Sc 1 5) (nI k) Sm' ∧ hp_RS n f Sc' Sm' ∧ (∀ i, i ≠ 25 + f → i ≠ 29 + f → Sc' i = Sc i) ∧ (∀ i j, (i < 102 ∨ 109 < i ∨ j ≠ f) → Sm' i j = Sm i j) := by
  have hR := hp_RS_follow h (Sc 1 0) (Sc 1 1) (Sc (25 + f) 1) (Sc 1 4 - Sc 1 3 * Sc (25 + f) 1) ((Sc 1 5 - Sc 1 3) &&& 65535)
  have hw := h.1.1
  have fc : ∀ i, i ≠ 25 + f → i ≠ 29 + f → hp_cF f Sc (Sc 1 0) (Sc 1 1) (Sc (25 + f) 1) (Sc 1 4 - Sc 1 3 * Sc (25 + f) 1) ((Sc 1 5 - Sc 1 3) &&& 65535) i = Sc i := by
    intro i i1 i2
    funext b
    unfold hp_cF
    (repeat (first | rw [hp_U1] | rw [hp_U2 (by omega)] | rw [hp_U3 (by omega)]))
  have fm : ∀ i j, (i < 102 ∨ 109 < i ∨ j ≠ f) → hp_mF f Sm (Sc 1 0) (Sc 1 1) (Sc (25 + f) 1) (Sc 1 4 - Sc 1 3 * Sc (25 + f) 1) ((Sc 1 5 - Sc 1 3) &&& 65535) i j = Sm i j := by
    intro i j hij
    unfold hp_mF
    by_cases hj : j = f
    · have h3 : i < 102 ∨ 109 < i := by omega
      (repeat (first | rw [hp_U1] | rw [hp_U2 (by omega)] | rw [hp_U3 (by omega)]))
    · (repeat (first | rw [hp_U1] | rw [hp_U2 (by omega)] | rw [hp_U3 (by omega)]))
  have hC : f_X5_chooseKind_76 (25 + f) 1 Sc = hs_l (hp_cF f Sc (Sc 1 0) (Sc 1 1) (Sc (25 + f) 1) (Sc 1 4 - Sc 1 3 * Sc (25 + f) 1) ((Sc 1 5 - Sc 1 3) &&& 65535)) (fun S_3 => hs_l (S_3 (25 + f) 2) (fun x_4 => (if x_4 = 0 then some ((4 : Int32), S_3) else (if x_4 = 1 then some ((3 : Int32), S_3) else hs_b2 (f_X5_smallestKind (25 + f) 1 S_3) (fun r_9 S_7 => some (r_9, S_7)))))) := by
    unfold f_X5_chooseKind_76 f_X0_follow f_X0_follow_0 f_X0_phaseOf f_X0_phaseOf_0 f_X0_offsetOf f_X0_offsetOf_0 hp_cF
    simp only [hp_l, hp_b2, hp_b1, hp_bg1, show 25 + f + 4 = 29 + f by omega]
    have e1 : ∀ (S : hs_M) (k j : Nat) (x : Int32), hs_U S (29 + f) k x 1 j = S 1 j := fun S k j x => hp_U2 (by omega)
    simp only [e1]
  have hM := hp_m224 hf (Sc 1 3) (Sc 1 4) (Sc 1 5) (Sc 1 4 - Sc 1 3 * Sm 101 f) ((Sc 1 5 - Sc 1 3) &&& 65535) Sm
  rw [← h0, ← h1, ← hw] at hM
  rw [hC, hp_l, hp_l, ← hw, hM]
  generalize hp_cF f Sc (Sc 1 0) (Sc 1 1) (Sc (25 + f) 1) (Sc 1 4 - Sc 1 3 * Sc (25 + f) 1) ((Sc 1 5 - Sc 1 3) &&& 65535) = Sc' at *
  generalize hp_mF f Sm (Sc 1 0) (Sc 1 1) (Sc (25 + f) 1) (Sc 1 4 - Sc 1 3 * Sc (25 + f) 1) ((Sc 1 5 - Sc 1 3) &&& 65535) = Sm' at *
  have e1 : Sc' 1 = Sc 1 := fc 1 (by omega) (by omega)
  have hRN := hR.2.2.2.2.2.2
  obtain ⟨b1, j, hj, b2⟩ := hR.2.1
  have hsm := hp_smallest hf hn hRN (show Sc' 1 2 = Sm' 100 3 by rw [e1, h2]; exact (fm 100 3 (by omega)).symm)
  rw [e1] at hsm
  have hch : f_X7_choose (nI f) (Sc 1 3) Sm' = if (2 : Int32) ≤ Sm' 108 f then (if Sm' 100 3 = 0 then hs_b2 (f_X7_enough (nI f) (0 : Int32) (Sc 1 3) Sm') (fun r_3 S_1 => (if r_3 = 0 then f_X7_choose_44 (nI f) (Sc 1 3) S_1 else some ((0 : Int32), S_1))) else f_X7_choose_44 (nI f) (Sc 1 3) Sm') else if Sm' 108 f = 0 then some (4, Sm') else some (3, Sm') := by
    unfold f_X7_choose f_X7_choose_0 f_X7_choose_24
    rw [hp_ix (show f < hs_N 108 from hf), nI_clamp (by omega), hp_ix (show f < hs_N 108 from hf)]
  rw [hch, b1, b2]
  rcases (show j = 0 ∨ j = 1 ∨ j = 2 by omega) with rfl | rfl | rfl
  · exact ⟨4, Sc', Sm', by decide, rfl, rfl, hR, fc, fm⟩
  · exact ⟨3, Sc', Sm', by decide, rfl, rfl, hR, fc, fm⟩
  · obtain ⟨k, k1, k2, k3⟩ := hsm
    rw [if_neg (by decide), if_neg (by decide), if_pos (by decide), k2, k3, hp_b2, hp_b2]
    exact ⟨k, Sc', Sm', by omega, rfl, rfl, hR, fc, fm⟩
