/-! ===== a receiver takes a packet ===== -/
theorem hp_m52 : ∀ (r n i : Nat) (S : hs_M), r + i = 11 → ∃ S', f_X7_keep_52 (n + r + 1) (nI i) S = some S' ∧ (∀ a b, a ≠ 124 → S' a b = S a b) ∧ ∀ j, S' 124 j = if i ≤ j ∧ j < 11 then S 126 j else S 124 j
  | 0, n, i, S, h => by
    have hi : i = 11 := by omega
    subst hi
    refine ⟨S, ?_, fun _ _ _ => rfl, fun j => by rw [if_neg (by omega)]⟩
    show fb_X7_keep_52 _ _ _ = _
    unfold fb_X7_keep_52
    rw [if_pos (show (11 : Int32) ≤ nI 11 by decide)]
  | r + 1, n, i, S, h => by
    have e : f_X7_keep_52 (n + (r + 1) + 1) (nI i) S = f_X7_keep_52 (n + (r + 1)) (nI (i + 1)) (hs_U S 124 i (S 126 i)) := by
      show fb_X7_keep_52 _ _ _ = _
      unfold fb_X7_keep_52
      rw [if_neg (show ¬ (11 : Int32) ≤ nI i from nI_ge (b := 11) (by omega) (by decide)), hp_ix (show i < hs_N 126 by show i < 13; omega), hp_ix (show i < hs_N 124 by show i < 11; omega), hp_l, hp_l, nI_clamp (by omega), nI_1]
    obtain ⟨S', s1, s2, s3⟩ := hp_m52 r n (i + 1) (hs_U S 124 i (S 126 i)) (by omega)
    refine ⟨S', e.trans s1, fun a b ha => ?_, fun j => ?_⟩
    · rw [s2 a b ha, hp_U2 ha]
    · rw [s3 j]
      by_cases c1 : i + 1 ≤ j ∧ j < 11
      · rw [if_pos c1, if_pos (by omega), hp_U2 (by decide)]
      · rw [if_neg c1]
        by_cases c2 : j = i
        · subst c2
          rw [hp_U1, if_pos (by omega)]
        · rw [hp_U3 c2, if_neg (by omega)]
theorem hp_keepM {f : Nat} (hf : f < 4) (num : Int32) (S : hs_M) : ∃ S', f_X7_keep (nI f) num S = some S' ∧ S' 122 f = (if S 115 f = 0 then num else S 121 f) ∧ S' 121 f = num ∧ S' 123 f = 0 ∧ (∀ j, S' 125 j = if j = 6 then S 125 6 + 1 else S 125 j) ∧ (∀ j, j < 11 → S' 124 j = S 126 j) ∧ (∀ i j, i ≠ 124 → i ≠ 125 → (i < 121 ∨ 123 < i ∨ j ≠ f) → S' i j = S i j) := by
  have h24 : ∀ y : Int32, ∃ S', f_X7_keep_24 (nI f) num (nI f) y S = some S' ∧ S' 122 f = y ∧ S' 121 f = num ∧ S' 123 f = 0 ∧ (∀ j, S' 125 j = if j = 6 then S 125 6 + 1 else S 125 j) ∧ (∀ j, j < 11 → S' 124 j = S 126 j) ∧ (∀ i j, i ≠ 124 → i ≠ 125 → (i < 121 ∨ 123 < i ∨ j ≠ f) → S' i j = S i j) := by
    intro y
    have x1 : hs_N 125 = 11 := rfl
    have y6 : ∀ G : Option hs_M, hs_ix (6 : Int32) 11 G = G := fun G => hp_ix (c := 6) (by decide)
    have t6 : (6 : Int32).toNatClampNeg = 6 := rfl
    obtain ⟨S', s1, s2, s3⟩ := hp_m52 11 28 0 (hs_U (hs_U (hs_U (hs_U S 122 f y) 121 f num) 123 f 0) 125 6 (S 125 6 + 1)) rfl
    refine ⟨S', ?_, ?_, ?_, ?_, fun j => ?_, fun j hj => ?_, fun i j i1 i2 i3 => ?_⟩
    · unfold f_X7_keep_24
      rw [hp_ix (show f < hs_N 122 from hf), hp_l, hp_ix (show f < hs_N 121 from hf), hp_l, hp_ix (show f < hs_N 123 from hf), hp_l, x1, y6, y6, t6, nI_clamp (show f < 2 ^ 31 by omega), hp_l, hp_U2 (show (125 : Nat) ≠ 123 by decide), hp_U2 (show (125 : Nat) ≠ 121 by decide), hp_U2 (show (125 : Nat) ≠ 122 by decide)]
      exact s1
    · rw [s2 _ _ (by decide)]; (repeat (first | rw [hp_U1] | rw [hp_U2 (by omega)] | rw [hp_U3 (by omega)]))
    · rw [s2 _ _ (by decide)]; (repeat (first | rw [hp_U1] | rw [hp_U2 (by omega)] | rw [hp_U3 (by omega)]))
    · rw [s2 _ _ (by decide)]; (repeat (first | rw [hp_U1] | rw [hp_U2 (by omega)] | rw [hp_U3 (by omega)]))
    · rw [s2 _ _ (by decide)]
      by_cases hj : j = 6
      · rw [if_pos hj, hj, hp_U1]
      · rw [if_neg hj]; (repeat (first | rw [hp_U1] | rw [hp_U2 (by omega)] | rw [hp_U3 (by omega)]))
    · rw [s3 j, if_pos (by omega)]; (repeat (first | rw [hp_U1] | rw [hp_U2 (by omega)] | rw [hp_U3 (by omega)]))
    · rw [s2 i j i1]
      by_cases hj : j = f
      · have h3 : i < 121 ∨ 123 < i := by omega
        (repeat (first | rw [hp_U1] | rw [hp_U2 (by omega)] | rw [hp_U3 (by omega)]))
      · (repeat (first | rw [hp_U1] | rw [hp_U2 (by omega)] | rw [hp_U3 (by omega)]))
  unfold f_X7_keep f_X7_keep_0
  rw [hp_ix (show f < hs_N 115 from hf), nI_clamp (show f < 2 ^ 31 by omega), hp_ix (show f < hs_N 121 from hf)]
  by_cases c : S 115 f = 0
  · rw [if_pos c, if_pos c]
    exact h24 num
  · rw [if_neg c, if_neg c]
    exact h24 (S 121 f)
theorem hp_cMade (q : Nat) (x : Int32) (S : hs_M) : f_X4_noteMade q x S = some (hs_U (hs_U (hs_U (hs_U S q 3 (if S q 1 = 0 then x else S q 2)) q 2 x) q 1 2) q 4 0) := by
  unfold f_X4_noteMade f_X4_noteMade_0 f_X4_noteMade_16
  by_cases c : S q 1 = 0
  · rw [if_pos c, if_pos c]
    rfl
  · rw [if_neg c, if_neg c]
    rfl
/-- failing: both lower the level alike -/
theorem hp_failB {f : Nat} (hf : f < 4) {S M : hs_M} (h : hp_RR f S M) : ∃ S' M', f_X4_noteFailure (38 + f) S = some S' ∧ f_X7_fail (nI f) M = some M' ∧ hp_RR f S' M' ∧ (∀ i, i ≠ 38 + f → S' i = S i) ∧ (∀ i j, i ≠ 125 → (i ≠ 115 ∧ i ≠ 123 ∨ j ≠ f) → M' i j = M i j) ∧ (∀ j, M' 125 j = if j = 10 then M 125 10 + 1 else M 125 j) := by
  obtain ⟨⟨a1, a2⟩, a3, a4, a5, ⟨b1, b2⟩, b3, b4, b5, b6⟩ := h
  have x1 : hs_N 125 = 11 := rfl
  have y10 : ∀ G : Option hs_M, hs_ix (10 : Int32) 11 G = G := fun G => hp_ix (c := 10) (by decide)
  have t10 : (10 : Int32).toNatClampNeg = 10 := rfl
  have hC : f_X4_noteFailure (38 + f) S = if S (38 + f) 4 + 1 = 3 then some (hs_U (hs_U (hs_U S (38 + f) 4 (S (38 + f) 4 + 1)) (38 + f) 4 0) (38 + f) 1 (hs_max (S (38 + f) 1 - 1) 0)) else some (hs_U S (38 + f) 4 (S (38 + f) 4 + 1)) := by
    unfold f_X4_noteFailure f_X4_noteFailure_0 f_X4_noteFailure_37
    rw [hp_l, hp_U1, hp_l, hp_l, hp_U3 (show (1 : Nat) ≠ 4 by decide), hp_U3 (show (1 : Nat) ≠ 4 by decide)]
  have hM : f_X7_fail (nI f) M = if M 123 f + 1 = 3 then some (hs_U (hs_U (hs_U (hs_U M 125 10 (M 125 10 + 1)) 123 f (M 123 f + 1)) 123 f 0) 115 f (if M 115 f ≤ 0 then 0 else M 115 f - 1)) else some (hs_U (hs_U M 125 10 (M 125 10 + 1)) 123 f (M 123 f + 1)) := by
    unfold f_X7_fail f_X7_fail_0 f_X7_fail_64 f_X7_fail_65
    rw [x1, y10, y10, t10, hp_l, hp_ix (show f < hs_N 123 from hf), hp_ix (show f < hs_N 123 from hf), hp_l, hp_ix (show f < hs_N 123 from hf), hp_ix (show f < hs_N 123 from hf), hp_l, hp_ix (show f < hs_N 115 from hf), hp_ix (show f < hs_N 115 from hf), hp_ix (show f < hs_N 115 from hf), hp_ix (show f < hs_N 115 from hf), hp_l, hp_l, nI_clamp (show f < 2 ^ 31 by omega)]
    have e1 : hs_U M 125 10 (M 125 10 + 1) 123 f = M 123 f := by (repeat (first | rw [hp_U1] | rw [hp_U2 (by omega)] | rw [hp_U3 (by omega)]))
    have e2 : hs_U (hs_U (hs_U M 125 10 (M 125 10 + 1)) 123 f (M 123 f + 1)) 123 f 0 115 f = M 115 f := by (repeat (first | rw [hp_U1] | rw [hp_U2 (by omega)] | rw [hp_U3 (by omega)]))
    rw [e1, hp_U1, e2]
    by_cases c : M 123 f + 1 = 3
    · rw [if_pos c, if_pos c]
      by_cases d : M 115 f ≤ 0
      · rw [if_pos d, if_pos d]
      · rw [if_neg d, if_neg d]
    · rw [if_neg c, if_neg c]
  have hlv : hs_max (M 115 f - 1) 0 = (if M 115 f ≤ 0 then 0 else M 115 f - 1) ∧ hp_in (if M 115 f ≤ 0 then 0 else M 115 f - 1) 3 := by
    obtain ⟨j, hj, e⟩ := a2
    rw [e]
    rcases (show j = 0 ∨ j = 1 ∨ j = 2 by omega) with rfl | rfl | rfl
    · exact ⟨by decide, 0, by decide, by decide⟩
    · exact ⟨by decide, 0, by decide, by decide⟩
    · exact ⟨by decide, 1, by decide, by decide⟩
  rw [hC, hM, a5, a1, hlv.1]
  by_cases c : M 123 f + 1 = 3
  · rw [if_pos c, if_pos c]
    refine ⟨_, _, rfl, rfl, ⟨⟨?_, ?_⟩, ?_, ?_, ?_, ⟨?_, ?_⟩, ?_, ?_, ?_, ?_⟩, fun i hi => ?_, fun i j i1 i2 => ?_, fun j => ?_⟩
    · (repeat (first | rw [hp_U1] | rw [hp_U2 (by omega)] | rw [hp_U3 (by omega)]))
    · (repeat (first | rw [hp_U1] | rw [hp_U2 (by omega)] | rw [hp_U3 (by omega)])); exact hlv.2
    · (repeat (first | rw [hp_U1] | rw [hp_U2 (by omega)] | rw [hp_U3 (by omega)])); exact a3
    · (repeat (first | rw [hp_U1] | rw [hp_U2 (by omega)] | rw [hp_U3 (by omega)])); exact a4
    · (repeat (first | rw [hp_U1] | rw [hp_U2 (by omega)] | rw [hp_U3 (by omega)]))
    · (repeat (first | rw [hp_U1] | rw [hp_U2 (by omega)] | rw [hp_U3 (by omega)])); exact b1
    · (repeat (first | rw [hp_U1] | rw [hp_U2 (by omega)] | rw [hp_U3 (by omega)])); exact b2
    · (repeat (first | rw [hp_U1] | rw [hp_U2 (by omega)] | rw [hp_U3 (by omega)])); exact b3
    · (repeat (first | rw [hp_U1] | rw [hp_U2 (by omega)] | rw [hp_U3 (by omega)])); exact b4
    · (repeat (first | rw [hp_U1] | rw [hp_U2 (by omega)] | rw [hp_U3 (by omega)])); exact b5
    · (repeat (first | rw [hp_U1] | rw [hp_U2 (by omega)] | rw [hp_U3 (by omega)])); exact b6
    · funext b; (repeat (first | rw [hp_U1] | rw [hp_U2 (by omega)] | rw [hp_U3 (by omega)]))
    · by_cases hj : j = f
      · have h3 : i ≠ 115 ∧ i ≠ 123 := by omega
        (repeat (first | rw [hp_U1] | rw [hp_U2 (by omega)] | rw [hp_U3 (by omega)]))
      · (repeat (first | rw [hp_U1] | rw [hp_U2 (by omega)] | rw [hp_U3 (by omega)]))
    · by_cases hj : j = 10
      · rw [if_pos hj, hj]; (repeat (first | rw [hp_U1] | rw [hp_U2 (by omega)] | rw [hp_U3 (by omega)]))
      · rw [if_neg hj]; (repeat (first | rw [hp_U1] | rw [hp_U2 (by omega)] | rw [hp_U3 (by omega)]))
  · rw [if_neg c, if_neg c]
    refine ⟨_, _, rfl, rfl, ⟨⟨?_, ?_⟩, ?_, ?_, ?_, ⟨?_, ?_⟩, ?_, ?_, ?_, ?_⟩, fun i hi => ?_, fun i j i1 i2 => ?_, fun j => ?_⟩
    · (repeat (first | rw [hp_U1] | rw [hp_U2 (by omega)] | rw [hp_U3 (by omega)])); exact a1
    · (repeat (first | rw [hp_U1] | rw [hp_U2 (by omega)] | rw [hp_U3 (by omega)])); exact a2
    · (repeat (first | rw [hp_U1] | rw [hp_U2 (by omega)] | rw [hp_U3 (by omega)])); exact a3
    · (repeat (first | rw [hp_U1] | rw [hp_U2 (by omega)] | rw [hp_U3 (by omega)])); exact a4
    · (repeat (first | rw [hp_U1] | rw [hp_U2 (by omega)] | rw [hp_U3 (by omega)]))
    · (repeat (first | rw [hp_U1] | rw [hp_U2 (by omega)] | rw [hp_U3 (by omega)])); exact b1
    · (repeat (first | rw [hp_U1] | rw [hp_U2 (by omega)] | rw [hp_U3 (by omega)])); exact b2
    · (repeat (first | rw [hp_U1] | rw [hp_U2 (by omega)] | rw [hp_U3 (by omega)])); exact b3
    · (repeat (first | rw [hp_U1] | rw [hp_U2 (by omega)] | rw [hp_U3 (by omega)])); exact b4
    · (repeat (first | rw [hp_U1] | rw [hp_U2 (by omega)] | rw [hp_U3 (by omega)])); exact b5
    · (repeat (first | rw [hp_U1] | rw [hp_U2 (by omega)] | rw [hp_U3 (by omega)])); exact b6
    · funext b; (repeat (first | rw [hp_U1] | rw [hp_U2 (by omega)] | rw [hp_U3 (by omega)]))
    · by_cases hj : j = f
      · have h3 : i ≠ 115 ∧ i ≠ 123 := by omega
        (repeat (first | rw [hp_U1] | rw [hp_U2 (by omega)] | rw [hp_U3 (by omega)]))
      · (repeat (first | rw [hp_U1] | rw [hp_U2 (by omega)] | rw [hp_U3 (by omega)]))
    · by_cases hj : j = 10
      · rw [if_pos hj, hj]; (repeat (first | rw [hp_U1] | rw [hp_U2 (by omega)] | rw [hp_U3 (by omega)]))
      · rw [if_neg hj]; (repeat (first | rw [hp_U1] | rw [hp_U2 (by omega)] | rw [hp_U3 (by omega)]))
/-- what both come to: r and what the reference answers -/
def hp_TK (f pt : Nat) (S M : hs_M) (r : Int32) (C1 : hs_M) (v : Int32) (M1 : hs_M) : Prop := (∀ i, i ≠ pt → i ≠ 38 + f → i ≠ 42 + f → C1 i = S i) ∧ (∀ i j, i ≠ 124 → i ≠ 125 → i ≠ 126 → (i ≠ 100 ∨ j ≠ 0) → ¬ (115 ≤ i ∧ i ≤ 123 ∧ j = f) → M1 i j = M i j) ∧ hp_RR f C1 M1 ∧ ((r = 0 ∧ v = 0 ∧ M1 100 0 = 4 ∧ (∀ j, M1 125 j = if j = 10 then M 125 10 + 1 else M 125 j) ∧ (∀ j, M1 124 j = M 124 j)) ∨ (r = 1 ∧ v = nI f ∧ M1 100 0 = M 100 0 ∧ (∀ j, M1 125 j = if j = 6 then M 125 6 + 1 else M 125 j) ∧ (∀ j, j < 11 → hp_part (C1 pt) j = M1 124 j)) ∨ (r = 2 ∧ v = nI f + 4 ∧ M1 100 0 = M 100 0 ∧ (∀ j, M1 125 j = if j = 7 then M 125 7 + 1 else if j = 6 then M 125 6 + 1 else M 125 j) ∧ (∀ j, j < 11 → hp_part (C1 pt) j = M1 124 j)))
/-- failing, whatever head was tried -/
theorem hp_tkFail {f pt : Nat} (hf : f < 4) (hpt : pt = 2 ∨ pt = 3) {S M H G : hs_M} (hRR : hp_RR f S M) (hH : ∀ i, i ≠ pt → H i = S i) (hG : ∀ i, i ≠ 126 → G i = M i) : ∃ C1 M1, f_X4_noteFailure (38 + f) H = some C1 ∧ f_X7_deliver_258 (nI f) 0 G = some (0, M1) ∧ hp_TK f pt S M 0 C1 0 M1 := by
  have hR2 : hp_RR f H G := hp_RR_fr hRR (hH _ (by omega)) (hH _ (by omega)) (fun i i1 i2 => by rw [hG i (by omega)])
  obtain ⟨C1, M1, c1, c2, c3, c4, c5, c6⟩ := hp_failB hf hR2
  refine ⟨C1, hs_U M1 100 0 4, c1, ?_, fun i i1 i2 i3 => ?_, fun i j i1 i2 i3 i4 i5 => ?_, hp_RR_fr c3 rfl rfl (fun i i1 i2 => hp_U2 (by omega)), Or.inl ⟨rfl, rfl, hp_U1, fun j => ?_, fun j => ?_⟩⟩
  · unfold f_X7_deliver_258
    rw [if_pos rfl, c2, hp_b1, hp_l]
  · rw [c4 i i2, hH i i1]
  · have e : hs_U M1 100 0 4 i j = M1 i j := if_neg (by omega)
    rw [e, c5 i j i2 (by omega), hG i i3]
  · rw [hp_U2 (by decide), c6 j, hG 125 (by decide)]
  · rw [hp_U2 (by decide), c5 124 j (by decide) (Or.inl (by decide)), hG 124 (by decide)]
