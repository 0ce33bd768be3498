/-! ===== sending: what a sender notes ===== -/
theorem hp_noteM {f : Nat} (hf : f < 4) (num : Int32) {Z : hs_M} {c : Nat} (hc : Z 111 f = nI (min c 4)) : ∃ Z', f_X7_note (nI f) num Z = some Z' ∧ (∀ i j, i ≠ 111 → i ≠ 112 → Z' i j = Z i j) ∧ (∀ j, j ≠ f → Z' 111 j = Z 111 j) ∧ (∀ j, (j < 4 * f ∨ 4 * f + 4 ≤ j) → Z' 112 j = Z 112 j) ∧ Z' 111 f = nI (min (c + 1) 4) ∧ (∀ j, j < min (c + 1) 4 → Z' 112 (4 * f + j) = if c < 4 then (if j = c then num else Z 112 (4 * f + j)) else (if j = 3 then num else Z 112 (4 * f + (j + 1)))) := by
  have e4 : ∀ j, (4 : Int32) * nI f + nI j = nI (4 * f + j) := fun j => by rw [show (4 : Int32) = nI 4 from rfl, pk_mul, nI_add]
  have h52 : ∀ (S : hs_M) (m : Nat), m < 4 → S 111 f = nI m → f_X7_note_52 (nI f) num S = some (hs_U (hs_U S 112 (4 * f + m) num) 111 f (nI (m + 1))) := by
    intro S m hm hS
    unfold f_X7_note_52
    rw [hp_ix (show f < hs_N 111 from hf), nI_clamp (by omega), hS, e4, hp_ix (show 4 * f + m < hs_N 112 by show _ < 16; omega), hp_l, hp_ix (show f < hs_N 111 from hf), hp_ix (show f < hs_N 111 from hf), hp_l, nI_clamp (by omega), hp_U2 (show (111 : Nat) ≠ 112 by decide), hS, nI_1]
  by_cases c4 : c < 4
  · have hm : min c 4 = c := by omega
    rw [hm] at hc
    have e : f_X7_note (nI f) num Z = some (hs_U (hs_U Z 112 (4 * f + c) num) 111 f (nI (c + 1))) := by
      unfold f_X7_note f_X7_note_0
      rw [hp_ix (show f < hs_N 111 from hf), nI_clamp (by omega), hc, if_neg (show ¬ nI c = 4 from fun w => by have := (nI_eq (b := 4) (by omega) (by decide)).mp w; omega)]
      exact h52 Z c c4 hc
    refine ⟨_, e, fun i j i1 i2 => ?_, fun j hj => ?_, fun j hj => ?_, ?_, fun j hj => ?_⟩
    · (repeat (first | rw [hp_U1] | rw [hp_U2 (by omega)] | rw [hp_U3 (by omega)]))
    · (repeat (first | rw [hp_U1] | rw [hp_U2 (by omega)] | rw [hp_U3 (by omega)]))
    · (repeat (first | rw [hp_U1] | rw [hp_U2 (by omega)] | rw [hp_U3 (by omega)]))
    · (repeat (first | rw [hp_U1] | rw [hp_U2 (by omega)] | rw [hp_U3 (by omega)]))
      rw [show min (c + 1) 4 = c + 1 by omega]
    · rw [if_pos c4]
      by_cases hjc : j = c
      · subst hjc
        rw [if_pos rfl]
        (repeat (first | rw [hp_U1] | rw [hp_U2 (by omega)] | rw [hp_U3 (by omega)]))
      · rw [if_neg hjc]
        (repeat (first | rw [hp_U1] | rw [hp_U2 (by omega)] | rw [hp_U3 (by omega)]))
  · have hm : min c 4 = 4 := by omega
    rw [hm] at hc
    have e : f_X7_note (nI f) num Z = some (hs_U (hs_U (hs_U (hs_U (hs_U (hs_U Z 112 (4 * f + 0) (Z 112 (4 * f + 1))) 112 (4 * f + 1) (Z 112 (4 * f + 2))) 112 (4 * f + 2) (Z 112 (4 * f + 3))) 111 f 3) 112 (4 * f + 3) num) 111 f (nI 4)) := by
      have step : ∀ (S : hs_M) (n j : Nat), j < 3 → f_X7_note_12 (n + 1) (nI f) num (nI j) S = f_X7_note_12 n (nI f) num (nI (j + 1)) (hs_U S 112 (4 * f + j) (S 112 (4 * f + (j + 1)))) := by
        intro S n j hj
        show fb_X7_note_12 _ _ _ _ _ = _
        unfold fb_X7_note_12
        rw [if_neg (show ¬ (3 : Int32) ≤ nI j from nI_ge (b := 3) hj (by decide)), hp_l, e4, nI_1, nI_1, hp_ix (show 4 * f + j + 1 < hs_N 112 by show _ < 16; omega), hp_ix (show 4 * f + j < hs_N 112 by show _ < 16; omega), hp_l, hp_l, nI_clamp (by omega), nI_clamp (by omega)]
        rfl
      have last : ∀ (S : hs_M) (n : Nat), f_X7_note_12 (n + 1) (nI f) num (nI 3) S = f_X7_note_52 (nI f) num (hs_U S 111 f 3) := by
        intro S n
        show fb_X7_note_12 _ _ _ _ _ = _
        unfold fb_X7_note_12
        rw [if_pos (show (3 : Int32) ≤ nI 3 by decide), hp_ix (show f < hs_N 111 from hf), hp_l, nI_clamp (by omega)]
      unfold f_X7_note f_X7_note_0
      rw [hp_ix (show f < hs_N 111 from hf), nI_clamp (by omega), hc, if_pos (by rfl)]
      refine (show _ = f_X7_note_12 (36 + 1 + 1 + 1 + 1) (nI f) num (nI 0) Z from rfl).trans ?_
      rw [step _ _ 0 (by decide), step _ _ 1 (by decide), step _ _ 2 (by decide), last, h52 _ 3 (by decide) (by rw [hp_U1]; rfl)]
      have r1 : hs_U Z 112 (4 * f + 0) (Z 112 (4 * f + (0 + 1))) 112 (4 * f + (1 + 1)) = Z 112 (4 * f + 2) := hp_U3 (by omega)
      have r2 : hs_U (hs_U Z 112 (4 * f + 0) (Z 112 (4 * f + (0 + 1)))) 112 (4 * f + 1) (Z 112 (4 * f + 2)) 112 (4 * f + (2 + 1)) = Z 112 (4 * f + 3) := (hp_U3 (by omega)).trans (hp_U3 (by omega))
      rw [r1, r2]
    refine ⟨_, e, fun i j i1 i2 => ?_, fun j hj => ?_, fun j hj => ?_, ?_, fun j hj => ?_⟩
    · (repeat (first | rw [hp_U1] | rw [hp_U2 (by omega)] | rw [hp_U3 (by omega)]))
    · (repeat (first | rw [hp_U1] | rw [hp_U2 (by omega)] | rw [hp_U3 (by omega)]))
    · (repeat (first | rw [hp_U1] | rw [hp_U2 (by omega)] | rw [hp_U3 (by omega)]))
    · (repeat (first | rw [hp_U1] | rw [hp_U2 (by omega)] | rw [hp_U3 (by omega)]))
      rw [show min (c + 1) 4 = 4 by omega]
    · rw [if_neg c4]
      have hj4 : j < 4 := by omega
      rcases (show j = 0 ∨ j = 1 ∨ j = 2 ∨ j = 3 by omega) with rfl | rfl | rfl | rfl
      · rw [if_neg (by decide)]
        (repeat (first | rw [hp_U1] | rw [hp_U2 (by omega)] | rw [hp_U3 (by omega)]))
      · rw [if_neg (by decide)]
        (repeat (first | rw [hp_U1] | rw [hp_U2 (by omega)] | rw [hp_U3 (by omega)]))
      · rw [if_neg (by decide)]
        (repeat (first | rw [hp_U1] | rw [hp_U2 (by omega)] | rw [hp_U3 (by omega)]))
      · rw [if_pos rfl]
        (repeat (first | rw [hp_U1] | rw [hp_U2 (by omega)] | rw [hp_U3 (by omega)]))
/-- the reference's send, behind its note -/
def hp_T2 (x9 : Int32) (S_1 : hs_M) : Option (Int32 × hs_M) := (if (S_1 100 16) = (8 : Int32) then some ((x9 + (8 : Int32)), S_1) else hs_ix (S_1 100 16) (hs_N 113) (hs_l (hs_U S_1 113 (S_1 100 16).toNatClampNeg (S_1 100 31)) (fun S_3 => f_X7_send_444 hs_fuel x9 (0 : Int32) S_3)))
theorem hp_note {n f k : Nat} (hf : f < 4) (hk : k ≤ 4) (hn : n ≤ 1000) (num : Int32) {Sc Sm : hs_M} (h : hp_RS n f Sc Sm) : ∃ Sc' Sm', f_X5_noteSent (25 + f) (nI k) num Sc = some Sc' ∧ (if nI k = (4 : Int32) then f_X7_send_362 (nI f) num (nI k) (nI f) (0 : Int32) Sm else hs_ix (nI f) (hs_N 110) (f_X7_send_362 (nI f) num (nI k) (nI f) ((Sm 110 (nI f).toNatClampNeg) + (1 : Int32)) Sm)) = hp_T2 (nI k) Sm' ∧ hp_RS (n + 1) f Sc' Sm' ∧ (∀ i, i ≠ 25 + f → i ≠ 33 + f → Sc' i = Sc i) ∧ (∀ i j, i < 108 ∨ 112 < i → Sm' i j = Sm i j) ∧ (∀ i j, i ≠ 112 → j ≠ f → Sm' i j = Sm i j) ∧ (∀ j, (j < 4 * f ∨ 4 * f + 4 ≤ j) → Sm' 112 j = Sm 112 j) := by
  obtain ⟨⟨a1, a2⟩, ⟨b1, b2⟩, cc, d, ⟨g1, g2⟩, ⟨x0, x1, x2, x3, x4⟩, ⟨c, k1, k2, k3, k4⟩⟩ := h
  have hN : hs_N (25 + f + 8) = 4 := by
    have key : ∀ f, f < 4 → hs_N (25 + f + 8) = 4 := by decide +kernel
    exact key f hf
  -- the class, its age given
  have hC : ∀ y : Int32, f_X5_noteSent_16 (25 + f) num (25 + f) y Sc = some (if Sc (25 + f) 2 = 2 then hs_U (hs_U (hs_U (hs_U Sc (25 + f) 4 y) (33 + f) (c % 4) num) (25 + f) 7 (nI (c + 1))) (25 + f) 3 (Sc (25 + f) 3 + 1) else if Sc (25 + f) 3 + 1 = 3 then hs_U (hs_U (hs_U (hs_U (hs_U (hs_U Sc (25 + f) 4 y) (33 + f) (c % 4) num) (25 + f) 7 (nI (c + 1))) (25 + f) 3 (Sc (25 + f) 3 + 1)) (25 + f) 2 2) (25 + f) 3 0 else hs_U (hs_U (hs_U (hs_U Sc (25 + f) 4 y) (33 + f) (c % 4) num) (25 + f) 7 (nI (c + 1))) (25 + f) 3 (Sc (25 + f) 3 + 1)) := by
    intro y
    unfold f_X5_noteSent_16 f_X5_noteSent_72 f_X5_enter f_X5_enter_0
    have m3 : nI c &&& 3 = nI (c % 4) := pk_andN (by omega) 2 rfl
    simp only [hp_l, hp_b1]
    have r1 : hs_U Sc (25 + f) 4 y (25 + f) 7 = nI c := (hp_U3 (by decide)).trans k2
    rw [r1, m3, hN, hp_ix (Nat.mod_lt c (by decide)), nI_clamp (by omega), show 25 + f + 8 = 33 + f by omega]
    have r2 : hs_U (hs_U Sc (25 + f) 4 y) (33 + f) (c % 4) num (25 + f) 7 = nI c := (hp_U2 (by omega)).trans r1
    rw [r2, nI_1]
    have r3 : hs_U (hs_U (hs_U Sc (25 + f) 4 y) (33 + f) (c % 4) num) (25 + f) 7 (nI (c + 1)) (25 + f) 3 = Sc (25 + f) 3 := by (repeat (first | rw [hp_U1] | rw [hp_U2 (by omega)] | rw [hp_U3 (by omega)]))
    rw [r3]
    have r4 : hs_U (hs_U (hs_U (hs_U Sc (25 + f) 4 y) (33 + f) (c % 4) num) (25 + f) 7 (nI (c + 1))) (25 + f) 3 (Sc (25 + f) 3 + 1) (25 + f) 2 = Sc (25 + f) 2 := by (repeat (first | rw [hp_U1] | rw [hp_U2 (by omega)] | rw [hp_U3 (by omega)]))
    rw [r4, hp_U1]
    by_cases w : Sc (25 + f) 2 = 2
    · rw [if_pos w, if_pos w]
    · rw [if_neg w, if_neg w]
      by_cases v : Sc (25 + f) 3 + 1 = 3
      · rw [if_pos v, if_pos v]
      · rw [if_neg v, if_neg v]
  -- the reference, its age given
  have hM : ∀ y : Int32, f_X7_send_362 (nI f) num (nI k) (nI f) y Sm = f_X7_send_407 (nI f) num (nI k) (if Sm 108 f = 2 then hs_U (hs_U Sm 110 f y) 109 f (Sm 109 f + 1) else if Sm 109 f + 1 = 3 then hs_U (hs_U (hs_U (hs_U Sm 110 f y) 109 f (Sm 109 f + 1)) 108 f 2) 109 f 0 else hs_U (hs_U Sm 110 f y) 109 f (Sm 109 f + 1)) := by
    intro y
    unfold f_X7_send_362
    rw [hp_ix (show f < hs_N 110 from hf), hp_l, hp_ix (show f < hs_N 109 from hf), hp_ix (show f < hs_N 109 from hf), hp_l, hp_ix (show f < hs_N 108 from hf), hp_ix (show f < hs_N 109 from hf), hp_ix (show f < hs_N 108 from hf), hp_l, hp_ix (show f < hs_N 109 from hf), hp_l, nI_clamp (by omega)]
    have r3 : hs_U Sm 110 f y 109 f = Sm 109 f := by (repeat (first | rw [hp_U1] | rw [hp_U2 (by omega)] | rw [hp_U3 (by omega)]))
    rw [r3]
    have r4 : hs_U (hs_U Sm 110 f y) 109 f (Sm 109 f + 1) 108 f = Sm 108 f := by (repeat (first | rw [hp_U1] | rw [hp_U2 (by omega)] | rw [hp_U3 (by omega)]))
    rw [r4, hp_U1]
    obtain ⟨j, hj, ej⟩ := b2
    have hiff : (2 : Int32) ≤ Sm 108 f ↔ Sm 108 f = 2 := by
      rw [ej]
      rcases (show j = 0 ∨ j = 1 ∨ j = 2 by omega) with rfl | rfl | rfl <;> decide
    by_cases w : Sm 108 f = 2
    · rw [if_pos (hiff.mpr w), if_pos w]
    · rw [if_neg (fun q => w (hiff.mp q)), if_neg w]
      by_cases v : Sm 109 f + 1 = 3
      · rw [if_pos v, if_pos v]
      · rw [if_neg v, if_neg v]
  -- both, their age given
  have hB : ∀ y : Int32, ∃ Sc' Sm', f_X5_noteSent_16 (25 + f) num (25 + f) y Sc = some Sc' ∧ f_X7_send_362 (nI f) num (nI k) (nI f) y Sm = hp_T2 (nI k) Sm' ∧ hp_RS (n + 1) f Sc' Sm' ∧ (∀ i, i ≠ 25 + f → i ≠ 33 + f → Sc' i = Sc i) ∧ (∀ i j, i < 108 ∨ 112 < i → Sm' i j = Sm i j) ∧ (∀ i j, i ≠ 112 → j ≠ f → Sm' i j = Sm i j) ∧ (∀ j, (j < 4 * f ∨ 4 * f + 4 ≤ j) → Sm' 112 j = Sm 112 j) := by
    intro y
    rw [hC, hM, b1, cc]
    have fin : ∀ (X Y : hs_M), (∀ k, k ≠ 7 → k ≠ 2 → k ≠ 3 → k ≠ 4 → X (25 + f) k = Sc (25 + f) k) → X (25 + f) 7 = nI (c + 1) → (∀ i, i ≠ 25 + f → i ≠ 33 + f → X i = Sc i) → (∀ i, i ≠ c % 4 → X (33 + f) i = Sc (33 + f) i) → X (33 + f) (c % 4) = num → (∀ i j, i < 108 ∨ 110 < i ∨ j ≠ f → Y i j = Sm i j) → X (25 + f) 2 = Y 108 f → hp_in (Y 108 f) 3 → X (25 + f) 3 = Y 109 f → X (25 + f) 4 = Y 110 f → ∃ Sc' Sm', some X = some Sc' ∧ f_X7_send_407 (nI f) num (nI k) Y = hp_T2 (nI k) Sm' ∧ hp_RS (n + 1) f Sc' Sm' ∧ (∀ i, i ≠ 25 + f → i ≠ 33 + f → Sc' i = Sc i) ∧ (∀ i j, i < 108 ∨ 112 < i → Sm' i j = Sm i j) ∧ (∀ i j, i ≠ 112 → j ≠ f → Sm' i j = Sm i j) ∧ (∀ j, (j < 4 * f ∨ 4 * f + 4 ≤ j) → Sm' 112 j = Sm 112 j) := by
      intro X Y X1 X2 X3 X4 X5 Y1 s1 s2 s3 s4
      obtain ⟨Z, z1, z2, z3, z4, z5, z6⟩ := hp_noteM hf num (Z := Y) (c := c) (by rw [Y1 111 f (by omega)]; exact k3)
      have zy : ∀ i, i ≤ 110 → Z i f = Y i f := fun i hi => z2 i f (by omega) (by omega)
      refine ⟨X, Z, rfl, ?_, ⟨⟨?_, ?_⟩, ⟨?_, ?_⟩, ?_, ?_, ⟨?_, ?_⟩, ⟨?_, ?_, ?_, ?_, ?_⟩, ⟨c + 1, by omega, X2, z5, fun j hj => ?_⟩⟩, X3, fun i j hij => ?_, fun i j i1 j1 => ?_, fun j hj => ?_⟩
      · unfold f_X7_send_407
        rw [z1]
        rfl
      · rw [X1 1 (by decide) (by decide) (by decide) (by decide), zy 101 (by decide), Y1 101 f (by omega)]; exact a1
      · rw [zy 101 (by decide), Y1 101 f (by omega)]; exact a2
      · rw [zy 108 (by decide)]; exact s1
      · rw [zy 108 (by decide)]; exact s2
      · rw [zy 109 (by decide)]; exact s3
      · rw [zy 110 (by decide)]; exact s4
      · rw [X1 5 (by decide) (by decide) (by decide) (by decide), zy 102 (by decide), Y1 102 f (by omega)]; exact g1
      · rw [zy 102 (by decide), Y1 102 f (by omega)]; exact g2
      · rw [X3 (29 + f) (by omega) (by omega), zy 103 (by decide), Y1 103 f (by omega)]; exact x0
      · rw [X3 (29 + f) (by omega) (by omega), zy 104 (by decide), Y1 104 f (by omega)]; exact x1
      · rw [X3 (29 + f) (by omega) (by omega), zy 105 (by decide), Y1 105 f (by omega)]; exact x2
      · rw [X3 (29 + f) (by omega) (by omega), zy 106 (by decide), Y1 106 f (by omega)]; exact x3
      · rw [X3 (29 + f) (by omega) (by omega), zy 107 (by decide), Y1 107 f (by omega)]; exact x4
      · rw [z6 j hj]
        by_cases c4 : c < 4
        · rw [if_pos c4]
          have hj1 : j < c + 1 := by omega
          by_cases hjc : j = c
          · rw [if_pos hjc, show (c + 1 - min (c + 1) 4 + j) % 4 = c % 4 by omega, X5]
          · rw [if_neg hjc, Y1 112 _ (by omega), k4 j (by omega), show (c + 1 - min (c + 1) 4 + j) % 4 = j by omega, show (c - min c 4 + j) % 4 = j by omega, X4 j (by omega)]
        · rw [if_neg c4]
          have hj1 : j < 4 := by omega
          by_cases hjc : j = 3
          · rw [if_pos hjc, show (c + 1 - min (c + 1) 4 + j) % 4 = c % 4 by omega, X5]
          · rw [if_neg hjc, Y1 112 _ (by omega), k4 (j + 1) (by omega), show (c + 1 - min (c + 1) 4 + j) % 4 = (c - min c 4 + (j + 1)) % 4 by omega, X4 _ (by omega)]
      · rw [z2 i j (by omega) (by omega)]
        exact Y1 i j (by omega)
      · by_cases h111 : i = 111
        · subst h111
          rw [z3 j j1]
          exact Y1 _ j (by omega)
        · rw [z2 i j h111 i1]
          exact Y1 i j (by omega)
      · rw [z4 j hj]
        exact Y1 112 j (by omega)
    have t1 : ∀ (S : hs_M) (i : Nat), i ≠ 25 + f → i ≠ 33 + f → hs_U (hs_U (hs_U (hs_U S (25 + f) 4 y) (33 + f) (c % 4) num) (25 + f) 7 (nI (c + 1))) (25 + f) 3 (Sm 109 f + 1) i = S i := by
      intro S i i1 i2
      funext b
      (repeat (first | rw [hp_U1] | rw [hp_U2 (by omega)] | rw [hp_U3 (by omega)]))
    by_cases w : Sm 108 f = 2
    · rw [if_pos w, if_pos w]
      refine fin _ _ (fun k q1 q2 q3 q4 => ?_) ?_ (t1 Sc) (fun i hi => ?_) ?_ (fun i j hij => ?_) ?_ ?_ ?_ ?_
      · (repeat (first | rw [hp_U1] | rw [hp_U2 (by omega)] | rw [hp_U3 (by omega)]))
      · (repeat (first | rw [hp_U1] | rw [hp_U2 (by omega)] | rw [hp_U3 (by omega)]))
      · (repeat (first | rw [hp_U1] | rw [hp_U2 (by omega)] | rw [hp_U3 (by omega)]))
      · (repeat (first | rw [hp_U1] | rw [hp_U2 (by omega)] | rw [hp_U3 (by omega)]))
      · by_cases hj : j = f
        · have h3 : i < 108 ∨ 110 < i := by omega
          (repeat (first | rw [hp_U1] | rw [hp_U2 (by omega)] | rw [hp_U3 (by omega)]))
        · (repeat (first | rw [hp_U1] | rw [hp_U2 (by omega)] | rw [hp_U3 (by omega)]))
      · (repeat (first | rw [hp_U1] | rw [hp_U2 (by omega)] | rw [hp_U3 (by omega)])); exact b1
      · (repeat (first | rw [hp_U1] | rw [hp_U2 (by omega)] | rw [hp_U3 (by omega)])); exact b2
      · (repeat (first | rw [hp_U1] | rw [hp_U2 (by omega)] | rw [hp_U3 (by omega)]))
      · (repeat (first | rw [hp_U1] | rw [hp_U2 (by omega)] | rw [hp_U3 (by omega)]))
    · rw [if_neg w, if_neg w]
      by_cases v : Sm 109 f + 1 = 3
      · rw [if_pos v, if_pos v]
        refine fin _ _ (fun k q1 q2 q3 q4 => ?_) ?_ (fun i i1 i2 => ?_) (fun i hi => ?_) ?_ (fun i j hij => ?_) ?_ ?_ ?_ ?_
        · (repeat (first | rw [hp_U1] | rw [hp_U2 (by omega)] | rw [hp_U3 (by omega)]))
        · (repeat (first | rw [hp_U1] | rw [hp_U2 (by omega)] | rw [hp_U3 (by omega)]))
        · funext b
          (repeat (first | rw [hp_U1] | rw [hp_U2 (by omega)] | rw [hp_U3 (by omega)]))
        · (repeat (first | rw [hp_U1] | rw [hp_U2 (by omega)] | rw [hp_U3 (by omega)]))
        · (repeat (first | rw [hp_U1] | rw [hp_U2 (by omega)] | rw [hp_U3 (by omega)]))
        · by_cases hj : j = f
          · have h3 : i < 108 ∨ 110 < i := by omega
            (repeat (first | rw [hp_U1] | rw [hp_U2 (by omega)] | rw [hp_U3 (by omega)]))
          · (repeat (first | rw [hp_U1] | rw [hp_U2 (by omega)] | rw [hp_U3 (by omega)]))
        · (repeat (first | rw [hp_U1] | rw [hp_U2 (by omega)] | rw [hp_U3 (by omega)]))
        · (repeat (first | rw [hp_U1] | rw [hp_U2 (by omega)] | rw [hp_U3 (by omega)])); exact ⟨2, by decide, rfl⟩
        · (repeat (first | rw [hp_U1] | rw [hp_U2 (by omega)] | rw [hp_U3 (by omega)]))
        · (repeat (first | rw [hp_U1] | rw [hp_U2 (by omega)] | rw [hp_U3 (by omega)]))
      · rw [if_neg v, if_neg v]
        refine fin _ _ (fun k q1 q2 q3 q4 => ?_) ?_ (t1 Sc) (fun i hi => ?_) ?_ (fun i j hij => ?_) ?_ ?_ ?_ ?_
        · (repeat (first | rw [hp_U1] | rw [hp_U2 (by omega)] | rw [hp_U3 (by omega)]))
        · (repeat (first | rw [hp_U1] | rw [hp_U2 (by omega)] | rw [hp_U3 (by omega)]))
        · (repeat (first | rw [hp_U1] | rw [hp_U2 (by omega)] | rw [hp_U3 (by omega)]))
        · (repeat (first | rw [hp_U1] | rw [hp_U2 (by omega)] | rw [hp_U3 (by omega)]))
        · by_cases hj : j = f
          · have h3 : i < 108 ∨ 110 < i := by omega
            (repeat (first | rw [hp_U1] | rw [hp_U2 (by omega)] | rw [hp_U3 (by omega)]))
          · (repeat (first | rw [hp_U1] | rw [hp_U2 (by omega)] | rw [hp_U3 (by omega)]))
        · (repeat (first | rw [hp_U1] | rw [hp_U2 (by omega)] | rw [hp_U3 (by omega)])); exact b1
        · (repeat (first | rw [hp_U1] | rw [hp_U2 (by omega)] | rw [hp_U3 (by omega)])); exact b2
        · (repeat (first | rw [hp_U1] | rw [hp_U2 (by omega)] | rw [hp_U3 (by omega)]))
        · (repeat (first | rw [hp_U1] | rw [hp_U2 (by omega)] | rw [hp_U3 (by omega)]))
  unfold f_X5_noteSent f_X5_noteSent_0
  rw [hp_ix (show f < hs_N 110 from hf), nI_clamp (by omega)]
  by_cases w : nI k = 4
  · rw [if_pos w, if_pos w]
    exact hB 0
  · rw [if_neg w, if_neg w, d]
    exact hB _
