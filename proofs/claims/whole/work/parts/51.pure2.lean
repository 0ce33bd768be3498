/-- so many bytes into a sum -/
def hp_sm (p : Int32) (h : Nat → Int32) : Nat → Int32 → Nat → Int32
  | 0, s, _ => s
  | m + 1, s, i => hp_sm p h m (hp_by p s (h i)) (i + 1)
theorem hp_sm_congr {p : Int32} {h g : Nat → Int32} : ∀ (m : Nat) (s : Int32) (i : Nat), (∀ j, i ≤ j → j < i + m → h j = g j) → hp_sm p h m s i = hp_sm p g m s i
  | 0, _, _, _ => rfl
  | m + 1, s, i, e => by
    show hp_sm p h m (hp_by p s (h i)) (i + 1) = hp_sm p g m (hp_by p s (g i)) (i + 1)
    rw [e i (by omega) (by omega)]
    exact hp_sm_congr m _ _ (fun j h1 h2 => e j (by omega) (by omega))
theorem hp_sm_in {p : Int32} {M : Nat} (hp : hp_sp p M) (h : Nat → Int32) : ∀ (m : Nat) (s : Int32) (i : Nat), hp_in s M → hp_in (hp_sm p h m s i) M
  | 0, _, _, e => e
  | m + 1, s, i, e => hp_sm_in hp h m _ _ (hp_by_in hp (h i) e)
/-! the reference's sum -/
theorem hp_mI (K : Int32 → Int32 → Int32 → Int32 → hs_M → Option (Int32 × hs_M)) (N p : Int32) (S : hs_M) {i : Nat} (hi : i < 13) : ∀ (m n : Nat) (s : Int32) (k : Nat), m + k = 8 → f_X7_sum_44 K (n + m + 1) N p s (nI i) (nI k) S = K N p (hp_rn p (S 126 i) m s k) (nI (i + 1)) S
  | 0, n, s, k, h => by
    have hk : k = 8 := by omega
    subst hk
    show fb_X7_sum_44 K _ N p s (nI i) (nI 8) S = _
    unfold fb_X7_sum_44
    rw [if_pos (show (8 : Int32) ≤ nI 8 by decide), hp_l, nI_1]
    rfl
  | m + 1, n, s, k, h => by
    show fb_X7_sum_44 K (f_X7_sum_44 K (n + m + 1)) N p s (nI i) (nI k) S = _
    have hk : k < 8 := by omega
    have ih := hp_mI K N p S hi m n (hp_st p s (S 126 i) (nI k)) (k + 1) (by omega)
    unfold fb_X7_sum_44
    rw [if_neg (show ¬ (8 : Int32) ≤ nI k from nI_ge (b := 8) hk (by decide)), hp_ix (show i < hs_N 126 from hi), nI_clamp (by omega)]
    unfold hp_rn
    by_cases c : (s &&& 1) = ((S 126 i >>> ((nI k) &&& 31)) &&& 1)
    · rw [if_pos c]
      unfold f_X7_sum_75 f_X7_sum_97
      simp only [hp_l]
      rw [if_pos trivial, nI_1]
      have e : hp_st p s (S 126 i) (nI k) = s >>> ((1 : Int32) &&& 31) := by unfold hp_st; rw [if_pos c]
      rw [e] at ih ⊢
      exact ih
    · rw [if_neg c]
      unfold f_X7_sum_75 f_X7_sum_97
      simp only [hp_l]
      rw [if_neg (by decide), nI_1]
      have e : hp_st p s (S 126 i) (nI k) = (s >>> ((1 : Int32) &&& 31)) ^^^ p := by unfold hp_st; rw [if_neg c]
      rw [e] at ih ⊢
      exact ih
theorem hp_mO (p : Int32) (S : hs_M) {N : Nat} (hN : N ≤ 13) : ∀ (m n : Nat) (s : Int32) (i : Nat), m + i = N → f_X7_sum_35 (n + m + 1) (nI N) p s (nI i) S = some (hp_sm p (S 126) m s i, S)
  | 0, n, s, i, h => by
    have hk : i = N := by omega
    subst hk
    show fb_X7_sum_35 _ (nI i) p s (nI i) S = _
    unfold fb_X7_sum_35
    rw [if_pos (nI_le (Nat.le_refl i) (by omega))]
    rfl
  | m + 1, n, s, i, h => by
    show fb_X7_sum_35 (f_X7_sum_35 (n + m + 1)) (nI N) p s (nI i) S = _
    unfold fb_X7_sum_35
    rw [if_neg (nI_ge (by omega) (by omega))]
    refine (hp_mI _ (nI N) p S (by omega) 8 31 s 0 rfl).trans ?_
    exact hp_mO p S hN m n _ (i + 1) (by omega)
theorem hp_mS3 (S : hs_M) {N : Nat} (hN : N ≤ 13) : f_X7_sum 3 (nI N) S = some (hp_sm 6 (S 126) N 7 0, S) := by
  show f_X7_sum_35 40 (nI N) 6 _ 0 S = _
  have := hp_mO 6 S hN N (39 - N) 7 0 (by omega)
  rw [show 39 - N + N + 1 = 40 by omega] at this
  exact this
theorem hp_mS7 (S : hs_M) {N : Nat} (hN : N ≤ 13) : f_X7_sum 7 (nI N) S = some (hp_sm 121 (S 126) N 127 0, S) := by
  show f_X7_sum_35 40 (nI N) 121 _ 0 S = _
  have := hp_mO 121 S hN N (39 - N) 127 0 (by omega)
  rw [show 39 - N + N + 1 = 40 by omega] at this
  exact this
theorem hp_mS8 (S : hs_M) {N : Nat} (hN : N ≤ 13) : f_X7_sum 8 (nI N) S = some (hp_sm 224 (S 126) N 255 0, S) := by
  show f_X7_sum_35 40 (nI N) 224 _ 0 S = _
  have := hp_mO 224 S hN N (39 - N) 255 0 (by omega)
  rw [show 39 - N + N + 1 = 40 by omega] at this
  exact this
/-! the class's parts and sums -/
def hp_mb (m : Int32) : Int32 := if m = 0 then 0 else 128
def hp_part (h : Nat → Int32) (i : Nat) : Int32 := if i = 0 then hs_ushr (h 0) 8 else if i = 1 then h 0 &&& 255 else if i = 2 then h 1 + hp_mb (h 2) else if i = 3 then hs_ushr (h 3) 8 else if i = 4 then h 3 &&& 255 else if i = 5 then hs_ushr (h 4) 24 else if i = 6 then hs_ushr (h 4) 16 &&& 255 else if i = 7 then hs_ushr (h 4) 8 &&& 255 else if i = 8 then h 4 &&& 255 else if i = 9 then hs_ushr (h 5) 8 else h 5 &&& 255
theorem hp_markBit (p0 : Nat) (S : hs_M) : f_X1_markBit p0 S = some (hp_mb (S p0 2), S) := by
  unfold f_X1_markBit f_X1_markBit_0 hp_mb f_X1_markBit_14
  by_cases c : S p0 2 = 0
  · rw [if_pos c, if_pos c]
  · rw [if_neg c, if_neg c]
theorem hp_cPart (p0 : Nat) (S : hs_M) {i : Nat} (hi : i < 11) : f_X1_part p0 (nI i) S = some (hp_part (S p0) i, S) := by
  rcases (show i = 0 ∨ i = 1 ∨ i = 2 ∨ i = 3 ∨ i = 4 ∨ i = 5 ∨ i = 6 ∨ i = 7 ∨ i = 8 ∨ i = 9 ∨ i = 10 by omega) with rfl | rfl | rfl | rfl | rfl | rfl | rfl | rfl | rfl | rfl | rfl
  · rfl
  · rfl
  · refine (show f_X1_part p0 (nI 2) S = hs_b2 (f_X1_markBit p0 S) (fun r_6 S_4 => some (((S p0 1) + r_6), S_4)) from rfl).trans ?_
    rw [hp_markBit]
    rfl
  · rfl
  · rfl
  · rfl
  · rfl
  · rfl
  · rfl
  · rfl
  · rfl
def hp_pst (h : Nat → Int32) (st : Int32) (i : Nat) : Int32 := if i = 11 then hs_ushr st 8 else if i = 12 then st &&& 255 else hp_part h i
def hp_kp (k : Nat) : Int32 := if k = 0 then 6 else if k = 1 then 121 else 224
def hp_ks (k : Nat) : Int32 := if k = 0 then 7 else if k = 1 then 127 else 255
def hp_kM (k : Nat) : Nat := if k = 0 then 8 else if k = 1 then 128 else 256
def hp_kn (k : Nat) : Nat := if k = 4 then 2 else 0
theorem hp_ksp {k : Nat} : hp_sp (hp_kp k) (hp_kM k) ∧ hp_in (hp_ks k) (hp_kM k) := by
  unfold hp_kp hp_kM hp_ks
  by_cases h0 : k = 0
  · subst h0
    exact ⟨Or.inl ⟨rfl, rfl⟩, 7, by decide, rfl⟩
  · by_cases h1 : k = 1
    · subst h1
      exact ⟨Or.inr (Or.inl ⟨rfl, rfl⟩), 127, by decide, rfl⟩
    · simp only [h0, h1, if_false]
      exact ⟨Or.inr (Or.inr ⟨rfl, rfl⟩), 255, by decide, rfl⟩
theorem hp_cS (p0 : Nat) {kd : Nat} (hk : kd ≤ 4) (st : Int32) (S : hs_M) {p : Int32} {M : Nat} (hp : hp_sp p M) : ∀ (m n : Nat) (s : Int32) (i : Nat), m + i = 11 → hp_in s M → f_X1_sumFor_16 (n + m + 1) p0 (nI kd) st s p (nI i) S = some (hp_sm p (hp_pst (S p0) st) (m + hp_kn kd) s i, S)
  | 0, n, s, i, h, hs => by
    have hi : i = 11 := by omega
    subst hi
    show fb_X1_sumFor_16 _ p0 (nI kd) st s p (nI 11) S = _
    unfold fb_X1_sumFor_16
    rw [if_pos (show (11 : Int32) ≤ nI 11 by decide)]
    by_cases c : kd = 4
    · subst c
      rw [if_pos (by rfl), hp_cBy hp hs, hp_b2, hp_cBy hp (hp_by_in hp _ hs), hp_b2]
      rfl
    · rw [if_neg (show ¬ nI kd = 4 from fun q => c ((nI_eq (b := 4) (by omega) (by decide)).mp q))]
      unfold hp_kn
      rw [if_neg c]
      rfl
  | m + 1, n, s, i, h, hs => by
    show fb_X1_sumFor_16 (f_X1_sumFor_16 (n + m + 1)) p0 (nI kd) st s p (nI i) S = _
    unfold fb_X1_sumFor_16
    rw [if_neg (show ¬ (11 : Int32) ≤ nI i from nI_ge (b := 11) (by omega) (by decide)), hp_cPart p0 S (by omega), hp_b2, hp_cBy hp hs, hp_b2, hp_l, nI_1, hp_cS p0 hk st S hp m n _ (i + 1) (by omega) (hp_by_in hp _ hs)]
    rw [show m + 1 + hp_kn kd = (m + hp_kn kd) + 1 by omega]
    have e : hp_pst (S p0) st i = hp_part (S p0) i := by unfold hp_pst; rw [if_neg (by omega), if_neg (by omega)]
    show _ = some (hp_sm p (hp_pst (S p0) st) (m + hp_kn kd) (hp_by p s (hp_pst (S p0) st i)) (i + 1), S)
    rw [e]
/-- the sum of a head for a kind -/
def hp_su (h : Nat → Int32) (st : Int32) (k : Nat) : Int32 := hp_sm (hp_kp k) (hp_pst h st) (11 + hp_kn k) (hp_ks k) 0
theorem hp_su_in (h : Nat → Int32) (st : Int32) (k : Nat) : hp_in (hp_su h st k) (hp_kM k) := hp_sm_in hp_ksp.1 _ _ _ _ hp_ksp.2
theorem hp_cSum (p0 : Nat) {k : Nat} (hk : k ≤ 4) (st : Int32) (S : hs_M) : f_X1_sumFor p0 (nI k) st S = some (hp_su (S p0) st k, S) := by
  have h := hp_cS p0 hk st S (hp_ksp (k := k)).1 11 28 (hp_ks k) 0 rfl hp_ksp.2
  unfold f_X1_sumFor f_X1_sumFor_0
  rw [hp_ix (show k < hs_sn 1 by show k < 5; omega), hp_l, hp_ix (show k < hs_sn 2 by show k < 5; omega), hp_l, nI_clamp (by omega)]
  have e : ∀ k, k ≤ 4 → hs_sv 1 k = hp_ks k ∧ hs_sv 2 k = hp_kp k := by decide +kernel
  rw [(e k hk).1, (e k hk).2]
  exact h
/-! the reference's head in bytes -/
def hp_fill (a t m n ti id : Int32) (k : Nat) : Int32 := if k = 0 then a / 256 else if k = 1 then hs_rem a 256 else if k = 2 then t + hp_mb m else if k = 3 then n / 256 else if k = 4 then hs_rem n 256 else if k < 9 then (ti >>> (((24 : Int32) - ((8 : Int32) * nI (k - 5))) &&& 31)) &&& 255 else if k = 9 then id / 256 else hs_rem id 256
def hp_F (S : hs_M) (a t m n ti id : Int32) : hs_M := fun i k => if i = 126 ∧ k < 11 then hp_fill a t m n ti id k else S i k
theorem hp_mFl (S : hs_M) (x5 x6 : Int32) (n : Nat) : f_X7_fill_68 (n + 5) x5 x6 0 S = some (hs_U (hs_U (hs_U (hs_U (hs_U (hs_U S 126 5 ((x5 >>> (((24 : Int32) - ((8 : Int32) * nI 0)) &&& 31)) &&& 255)) 126 6 ((x5 >>> (((24 : Int32) - ((8 : Int32) * nI 1)) &&& 31)) &&& 255)) 126 7 ((x5 >>> (((24 : Int32) - ((8 : Int32) * nI 2)) &&& 31)) &&& 255)) 126 8 ((x5 >>> (((24 : Int32) - ((8 : Int32) * nI 3)) &&& 31)) &&& 255)) 126 9 (x6 / 256)) 126 10 (hs_rem x6 256)) := rfl
theorem hp_mFill (S : hs_M) (a t m n ti id : Int32) : f_X7_fill a t m n ti id S = some (hp_F S a t m n ti id) := by
  have key : ∀ S : hs_M, f_X7_fill_68 hs_fuel ti id 0 S = _ := fun S => hp_mFl S ti id 35
  have e2 : f_X7_fill a t m n ti id S = some (hs_U (hs_U (hs_U (hs_U (hs_U (hs_U (hs_U (hs_U (hs_U (hs_U (hs_U S 126 0 (a / 256)) 126 1 (hs_rem a 256)) 126 2 (t + hp_mb m)) 126 3 (n / 256)) 126 4 (hs_rem n 256)) 126 5 ((ti >>> (((24 : Int32) - ((8 : Int32) * nI 0)) &&& 31)) &&& 255)) 126 6 ((ti >>> (((24 : Int32) - ((8 : Int32) * nI 1)) &&& 31)) &&& 255)) 126 7 ((ti >>> (((24 : Int32) - ((8 : Int32) * nI 2)) &&& 31)) &&& 255)) 126 8 ((ti >>> (((24 : Int32) - ((8 : Int32) * nI 3)) &&& 31)) &&& 255)) 126 9 (id / 256)) 126 10 (hs_rem id 256)) := by
    unfold f_X7_fill f_X7_fill_0 f_X7_fill_39 hp_mb
    by_cases c : m = 0
    · simp only [if_pos c]
      exact Eq.trans (show _ = f_X7_fill_68 hs_fuel ti id 0 (hs_U (hs_U (hs_U (hs_U (hs_U S 126 0 (a / 256)) 126 1 (hs_rem a 256)) 126 2 (t + 0)) 126 3 (n / 256)) 126 4 (hs_rem n 256)) from rfl) (key _)
    · simp only [if_neg c]
      exact Eq.trans (show _ = f_X7_fill_68 hs_fuel ti id 0 (hs_U (hs_U (hs_U (hs_U (hs_U S 126 0 (a / 256)) 126 1 (hs_rem a 256)) 126 2 (t + 128)) 126 3 (n / 256)) 126 4 (hs_rem n 256)) from rfl) (key _)
  rw [e2]
  congr 1
  funext i k
  unfold hp_F hp_fill
  by_cases hi : i = 126
  · subst hi
    by_cases hk : k < 11
    · rw [if_pos ⟨rfl, hk⟩]
      rcases (show k = 0 ∨ k = 1 ∨ k = 2 ∨ k = 3 ∨ k = 4 ∨ k = 5 ∨ k = 6 ∨ k = 7 ∨ k = 8 ∨ k = 9 ∨ k = 10 by omega) with rfl | rfl | rfl | rfl | rfl | rfl | rfl | rfl | rfl | rfl | rfl <;> rfl
    · rw [if_neg (fun q => hk q.2)]
      repeat rw [hp_U3 (by omega)]
  · rw [if_neg (fun q => hi q.1)]
    repeat rw [hp_U2 hi]
/-! the parts of both -/
theorem hp_hi8 {x : Int32} {n : Nat} (hx : hp_in x n) (hn : n ≤ 2 ^ 31) : hs_ushr x 8 = x / 256 ∧ x &&& 255 = hs_rem x 256 := by
  obtain ⟨j, hj, rfl⟩ := hx
  constructor
  · refine Eq.trans (pk_ushrN (by omega) 8 8 (by decide)) (Eq.symm ?_)
    exact pk_div (d := 256) (by omega) (by decide) (by decide)
  · refine Eq.trans (pk_andN (by omega) 8 rfl) (Eq.symm ?_)
    exact pk_rem (d := 256) (by omega) (by decide) (by decide)
theorem hp_tiP (x : Int32) : hs_ushr x 24 = (x >>> (((24 : Int32) - ((8 : Int32) * nI 0)) &&& 31)) &&& 255 ∧ hs_ushr x 16 &&& 255 = (x >>> (((24 : Int32) - ((8 : Int32) * nI 1)) &&& 31)) &&& 255 ∧ hs_ushr x 8 &&& 255 = (x >>> (((24 : Int32) - ((8 : Int32) * nI 2)) &&& 31)) &&& 255 ∧ x &&& 255 = (x >>> (((24 : Int32) - ((8 : Int32) * nI 3)) &&& 31)) &&& 255 := by
  refine ⟨?_, ?_, ?_, ?_⟩
  · have h1 : hs_ushr x 24 &&& 255 = (x >>> (((24 : Int32) - ((8 : Int32) * nI 0)) &&& 31)) &&& 255 := hp_low 8 rfl (fun i hi => by rw [hp_ub x 24 24 i (by decide), hp_sb x _ 24 i (by decide) (by omega)])
    rw [← h1, pk_and (hs_ushr x 24) 8 rfl]
    have h2 : (hs_ushr x 24).toBitVec.toNat = x.toBitVec.toNat / 2 ^ 24 := pk_ushr x 24 24 (by decide)
    have h3 := x.toBitVec.isLt
    rw [Nat.mod_eq_of_lt (by rw [h2]; omega)]
    apply Int32.toBitVec_inj.mp
    apply BitVec.eq_of_toNat_eq
    rw [pk_tn (by omega)]
  · exact hp_low 8 rfl (fun i hi => by rw [hp_ub x 16 16 i (by decide), hp_sb x _ 16 i (by decide) (by omega)])
  · exact hp_low 8 rfl (fun i hi => by rw [hp_ub x 8 8 i (by decide), hp_sb x _ 8 i (by decide) (by omega)])
  · exact hp_low 8 rfl (fun i hi => by rw [hp_sb x _ 0 i (by decide) (by omega), Nat.zero_add])
theorem hp_parts {h : Nat → Int32} {na nn ni : Nat} (h0 : hp_in (h 0) na) (h3 : hp_in (h 3) nn) (h5 : hp_in (h 5) ni) (ha : na ≤ 2 ^ 31 := by decide) (hn : nn ≤ 2 ^ 31 := by decide) (hi : ni ≤ 2 ^ 31 := by decide) {i : Nat} (hk : i < 11) : hp_part h i = hp_fill (h 0) (h 1) (h 2) (h 3) (h 4) (h 5) i := by
  obtain ⟨t1, t2, t3, t4⟩ := hp_tiP (h 4)
  rcases (show i = 0 ∨ i = 1 ∨ i = 2 ∨ i = 3 ∨ i = 4 ∨ i = 5 ∨ i = 6 ∨ i = 7 ∨ i = 8 ∨ i = 9 ∨ i = 10 by omega) with rfl | rfl | rfl | rfl | rfl | rfl | rfl | rfl | rfl | rfl | rfl
  · exact (hp_hi8 h0 ha).1
  · exact (hp_hi8 h0 ha).2
  · rfl
  · exact (hp_hi8 h3 hn).1
  · exact (hp_hi8 h3 hn).2
  · exact t1
  · exact t2
  · exact t3
  · exact t4
  · exact (hp_hi8 h5 hi).1
  · exact (hp_hi8 h5 hi).2
