/-! ===== sending: state and kind, both sides ===== -/
theorem hp_m216 {f : Nat} (hf : f < 4) (x2 x3 x4 x5 x6 y : Int32) (S : hs_M) : f_X7_send_216 (nI f) x2 x3 x4 x5 x6 (nI f) y S = f_X7_send_224 (nI f) x2 x3 x4 x5 x6 (hs_U (hs_U S 108 f y) 109 f 0) := by
  unfold f_X7_send_216
  rw [hp_ix (show f < hs_N 108 from hf), hp_l, hp_ix (show f < hs_N 109 from hf), hp_l, nI_clamp (by omega)]
theorem hp_m175 {f : Nat} (hf : f < 4) (x2 x3 x4 x5 x6 : Int32) (S : hs_M) : f_X7_send_175 (nI f) x2 x3 x4 x5 x6 S = f_X7_send_224 (nI f) x2 x3 x4 x5 x6 (hs_U (hs_U S 108 f 0) 109 f 0) := by
  unfold f_X7_send_175
  rw [hp_ix (show f < hs_N 108 from hf), hp_l, hp_ix (show f < hs_N 109 from hf), hp_l, nI_clamp (by omega)]
def hp_fx (f : Nat) (S : hs_M) : Prop := ¬ S 102 f = 0 ∧ S 103 f = S 100 1 ∧ S 104 f = S 100 2 ∧ S 105 f = S 101 f
theorem hp_m157 {f : Nat} (hf : f < 4) (x2 x3 x4 x5 x6 y : Int32) (S : hs_M) : f_X7_send_157 (nI f) x2 x3 x4 x5 x6 1 y S = if S 110 f = 20 then f_X7_send_175 (nI f) x2 x3 x4 x5 x6 S else if y = 0 then f_X7_send_216 (nI f) x2 x3 x4 x5 x6 (nI f) (if S 108 f = 0 then 0 else 1) S else f_X7_send_224 (nI f) x2 x3 x4 x5 x6 S := by
  unfold f_X7_send_157
  rw [if_neg (by decide), hp_ix (show f < hs_N 110 from hf), nI_clamp (by omega), hp_ix (show f < hs_N 108 from hf)]
  by_cases c : S 108 f = 0
  · rw [if_pos c, if_pos c]
  · rw [if_neg c, if_neg c]
theorem hp_m123 {f : Nat} (hf : f < 4) (x2 x3 x4 x5 x6 : Int32) (S : hs_M) : f_X7_send_123 (nI f) x2 x3 x4 x5 x6 1 S = if S 106 f = x5 ∧ S 107 f = x6 then f_X7_send_157 (nI f) x2 x3 x4 x5 x6 1 1 S else f_X7_send_157 (nI f) x2 x3 x4 x5 x6 1 0 S := by
  unfold f_X7_send_123 f_X7_send_156
  rw [if_neg (by decide), hp_ix (show f < hs_N 106 from hf), nI_clamp (by omega), hp_ix (show f < hs_N 107 from hf)]
  by_cases c : S 106 f = x5
  · rw [if_pos c]
    by_cases d : S 107 f = x6
    · rw [if_pos d, if_pos ⟨c, d⟩]
    · rw [if_neg d, if_neg (fun w => d w.2)]
  · rw [if_neg c, if_neg (fun w => c w.1)]
theorem hp_m35a {f : Nat} (hf : f < 4) (x2 x3 x4 : Int32) (S : hs_M) (h0 : S 100 0 = 0) : (hp_fx f S → hp_M35 (nI f) x2 x3 x4 S = f_X7_send_123 (nI f) x2 x3 x4 (x3 - x2 * S 101 f) ((x4 - x2) &&& 65535) 1 S) ∧ (¬ hp_fx f S → hp_M35 (nI f) x2 x3 x4 S = f_X7_send_175 (nI f) x2 x3 x4 (x3 - x2 * S 101 f) ((x4 - x2) &&& 65535) S) := by
  have e122 : ∀ x5 x6, f_X7_send_122 (nI f) x2 x3 x4 x5 x6 S = f_X7_send_175 (nI f) x2 x3 x4 x5 x6 S := fun _ _ => rfl
  unfold hp_M35 hp_fx
  rw [if_pos h0, hp_ix (show f < hs_N 101 from hf), hp_l, hp_l, hp_ix (show f < hs_N 102 from hf), hp_ix (show f < hs_N 103 from hf), hp_ix (show f < hs_N 104 from hf), hp_ix (show f < hs_N 105 from hf), hp_ix (show f < hs_N 101 from hf), nI_clamp (by omega)]
  by_cases c : S 102 f = 0
  · rw [if_pos c, e122]
    exact ⟨fun w => absurd c w.1, fun _ => rfl⟩
  · rw [if_neg c]
    by_cases d : S 103 f = S 100 1
    · rw [if_pos d]
      by_cases e : S 104 f = S 100 2
      · rw [if_pos e]
        by_cases g : S 105 f = S 101 f
        · rw [if_pos g]
          exact ⟨fun _ => rfl, fun w => absurd ⟨c, d, e, g⟩ w⟩
        · rw [if_neg g, e122]
          exact ⟨fun w => absurd w.2.2.2 g, fun _ => rfl⟩
      · rw [if_neg e, e122]
        exact ⟨fun w => absurd w.2.2.1 e, fun _ => rfl⟩
    · rw [if_neg d, e122]
      exact ⟨fun w => absurd w.2.1 d, fun _ => rfl⟩
theorem hp_c73 (f : Nat) (x : Int32) (S : hs_M) : f_X5_chooseKind_73 (25 + f) 1 (25 + f) x S = f_X5_chooseKind_76 (25 + f) 1 (hs_U (hs_U S (25 + f) 2 x) (25 + f) 3 0) := rfl
theorem hp_c41 (f : Nat) (S : hs_M) : f_X5_chooseKind_41 (25 + f) 1 S = f_X5_chooseKind_76 (25 + f) 1 (hs_U (hs_U S (25 + f) 2 0) (25 + f) 3 0) := rfl
theorem hp_sendA {n f : Nat} (hf : f < 4) (hn : n ≤ 1000) {Sc Sm : hs_M} (h : hp_RS n f Sc Sm) (h0 : Sc 1 0 = Sm 100 1) (h1 : Sc 1 1 = Sm 100 2) (h2 : Sc 1 2 = Sm 100 3) (ht : Sm 100 0 = 0) : ∃ k Sc' Sm', k ≤ 4 ∧ f_X5_chooseKind (25 + f) 1 Sc = some (nI k, Sc') ∧ hp_M35 (nI f) (Sc 1 3) (Sc 1 4) (Sc 1 5) Sm = hp_T (nI f) (Sc 1 3) (Sc 1 4) (Sc 1 5) (nI k) Sm' ∧ hp_RS n f Sc' Sm' ∧ (∀ i, i ≠ 25 + f → i ≠ 29 + f → Sc' i = Sc i) ∧ (∀ i j, (i < 102 ∨ 109 < i ∨ j ≠ f) → Sm' i j = Sm i j) := by
  have hent : ∀ x : Int32, hp_in x 3 → ∃ k Sc' Sm', k ≤ 4 ∧ f_X5_chooseKind_76 (25 + f) 1 (hs_U (hs_U Sc (25 + f) 2 x) (25 + f) 3 0) = some (nI k, Sc') ∧ f_X7_send_224 (nI f) (Sc 1 3) (Sc 1 4) (Sc 1 5) (Sc 1 4 - Sc 1 3 * Sm 101 f) ((Sc 1 5 - Sc 1 3) &&& 65535) (hs_U (hs_U Sm 108 f x) 109 f 0) = hp_T (nI f) (Sc 1 3) (Sc 1 4) (Sc 1 5) (nI k) Sm' ∧ hp_RS n f Sc' Sm' ∧ (∀ i, i ≠ 25 + f → i ≠ 29 + f → Sc' i = Sc i) ∧ (∀ i j, (i < 102 ∨ 109 < i ∨ j ≠ f) → Sm' i j = Sm i j) := by
    intro x hx
    have e1 : hs_U (hs_U Sc (25 + f) 2 x) (25 + f) 3 0 1 = Sc 1 := by
      funext b
      (repeat (first | rw [hp_U1] | rw [hp_U2 (by omega)] | rw [hp_U3 (by omega)]))
    have e2 : ∀ b, hs_U (hs_U Sm 108 f x) 109 f 0 100 b = Sm 100 b := by
      intro b
      (repeat (first | rw [hp_U1] | rw [hp_U2 (by omega)] | rw [hp_U3 (by omega)]))
    have e3 : hs_U (hs_U Sm 108 f x) 109 f 0 101 f = Sm 101 f := by (repeat (first | rw [hp_U1] | rw [hp_U2 (by omega)] | rw [hp_U3 (by omega)]))
    obtain ⟨k, Sc', Sm', k1, k2, k3, k4, k5, k6⟩ := hp_c76 hf hn (hp_RS_enter h hx) (by rw [e1, e2]; exact h0) (by rw [e1, e2]; exact h1) (by rw [e1, e2]; exact h2)
    rw [e1, e3] at k3
    refine ⟨k, Sc', Sm', k1, k2, k3, k4, fun i i1 i2 => ?_, fun i j hij => ?_⟩
    · rw [k5 i i1 i2]
      funext b
      (repeat (first | rw [hp_U1] | rw [hp_U2 (by omega)] | rw [hp_U3 (by omega)]))
    · rw [k6 i j hij]
      by_cases hj : j = f
      · have h3 : i < 102 ∨ 109 < i := by omega
        (repeat (first | rw [hp_U1] | rw [hp_U2 (by omega)] | rw [hp_U3 (by omega)]))
      · (repeat (first | rw [hp_U1] | rw [hp_U2 (by omega)] | rw [hp_U3 (by omega)]))
  have hno := hp_c76 hf hn h h0 h1 h2
  obtain ⟨m1, m2⟩ := hp_m35a hf (Sc 1 3) (Sc 1 4) (Sc 1 5) Sm ht
  obtain ⟨⟨a1, a2⟩, ⟨b1, b2⟩, c, d, ⟨g1, g2⟩, ⟨x0, x1, x2, x3, x4⟩, _⟩ := id h
  unfold f_X5_chooseKind f_X5_chooseKind_0
  rw [hp_isOf, hp_b2, hp_along, hp_b2, hp_c41, show 25 + f + 4 = 29 + f by omega, hp_c73, hp_c73]
  by_cases hfx : hp_fx f Sm
  · rw [m1 hfx, hp_m123 hf, hp_m157 hf, hp_m157 hf]
    obtain ⟨q1, q2, q3, q4⟩ := hfx
    have i1 : Sc (29 + f) 0 = Sc 1 0 ∧ Sc (29 + f) 1 = Sc 1 1 := ⟨by rw [x0, q2, h0], by rw [x1, q3, h1]⟩
    rw [if_neg (show ¬ Sc (25 + f) 5 = 0 by rw [g1]; exact q1), if_pos i1, if_neg (by decide), if_pos (show Sc (29 + f) 2 = Sc (25 + f) 1 by rw [x2, q4, a1])]
    by_cases hage : Sm 110 f = 20
    · rw [if_pos (show Sc (25 + f) 4 = 20 by rw [d]; exact hage)]
      simp only [if_pos hage, ite_self]
      rw [hp_m175 hf]
      exact hent 0 ⟨0, by decide, rfl⟩
    · rw [if_neg (show ¬ Sc (25 + f) 4 = 20 by rw [d]; exact hage), if_neg hage, if_neg hage]
      by_cases hal : Sm 106 f = Sc 1 4 - Sc 1 3 * Sm 101 f ∧ Sm 107 f = (Sc 1 5 - Sc 1 3) &&& 65535
      · rw [if_pos hal]
        have hal2 : (Sc (29 + f) 0 = Sc 1 0 ∧ Sc (29 + f) 1 = Sc 1 1) ∧ Sc (29 + f) 3 = Sc 1 4 - Sc 1 3 * Sc (29 + f) 2 ∧ Sc (29 + f) 4 = (Sc 1 5 - Sc 1 3) &&& 65535 := ⟨i1, by rw [x3, x2, q4]; exact hal.1, by rw [x4]; exact hal.2⟩
        rw [if_pos hal2, if_neg (show ¬ (1 : Int32) = 0 by decide), if_neg (show ¬ (1 : Int32) = 0 by decide)]
        exact hno
      · rw [if_neg hal, if_pos rfl, hp_m216 hf]
        have hal2 : ¬ ((Sc (29 + f) 0 = Sc 1 0 ∧ Sc (29 + f) 1 = Sc 1 1) ∧ Sc (29 + f) 3 = Sc 1 4 - Sc 1 3 * Sc (29 + f) 2 ∧ Sc (29 + f) 4 = (Sc 1 5 - Sc 1 3) &&& 65535) := by
          rintro ⟨_, w1, w2⟩
          exact hal ⟨by rw [← x3, w1, x2, q4], by rw [← x4]; exact w2⟩
        rw [if_neg hal2, if_pos rfl, b1]
        by_cases hst : Sm 108 f = 0
        · rw [if_pos hst, if_pos hst]
          exact hent 0 ⟨0, by decide, rfl⟩
        · rw [if_neg hst, if_neg hst]
          exact hent 1 ⟨1, by decide, rfl⟩
  · rw [m2 hfx, hp_m175 hf]
    have hz := hent 0 ⟨0, by decide, rfl⟩
    by_cases q1 : Sm 102 f = 0
    · rw [if_pos (show Sc (25 + f) 5 = 0 by rw [g1]; exact q1)]
      exact hz
    · rw [if_neg (show ¬ Sc (25 + f) 5 = 0 by rw [g1]; exact q1)]
      by_cases i1 : Sc (29 + f) 0 = Sc 1 0 ∧ Sc (29 + f) 1 = Sc 1 1
      · rw [if_pos i1, if_neg (by decide), if_neg (show ¬ Sc (29 + f) 2 = Sc (25 + f) 1 from fun w => hfx ⟨q1, by rw [← x0, i1.1, h0], by rw [← x1, i1.2, h1], by rw [← x2, w, a1]⟩)]
        exact hz
      · rw [if_neg i1, if_pos rfl]
        exact hz
