/-! ===== the pure part: what the denotations compute, no machine in it ===== -/
theorem hp_l {α β : Type} (v : α) (f : α → β) : hs_l v f = f v := rfl
theorem hp_b2 {α ρ : Type} (x : α) (S : hs_M) (G : α → hs_M → Option ρ) : hs_b2 (some (x, S)) G = G x S := rfl
theorem hp_b1 {ρ : Type} (S : hs_M) (G : hs_M → Option ρ) : hs_b1 (some S) G = G S := rfl
theorem hp_ix {ρ : Type} {c n : Nat} {G : Option ρ} (h : c < n) (hn : n < 2 ^ 31 := by decide) : hs_ix (nI c) n G = G := if_neg (nI_in h hn)
theorem hp_bg0 {ρ : Type} {G : Option ρ} : hs_bg 0 G = G := if_pos (Or.inl rfl)
theorem hp_bg1 {ρ : Type} {G : Option ρ} : hs_bg 1 G = G := if_pos (Or.inr rfl)
theorem hp_bg {ρ : Type} {x : Int32} {G : Option ρ} (h : x = 0 ∨ x = 1) : hs_bg x G = G := if_pos h
theorem hp_kg {ρ : Type} {i kd : Nat} {G : Option ρ} (h : hs_K i = kd) : hs_kg i kd G = G := if_pos h
theorem hp_U1 {S : hs_M} {i k : Nat} {x : Int32} : hs_U S i k x i k = x := if_pos ⟨rfl, rfl⟩
theorem hp_U2 {S : hs_M} {i k a b : Nat} {x : Int32} (h : a ≠ i) : hs_U S i k x a b = S a b := if_neg (fun q => h q.1)
theorem hp_U3 {S : hs_M} {i k a b : Nat} {x : Int32} (h : b ≠ k) : hs_U S i k x a b = S a b := if_neg (fun q => h q.2)
/-- a number under a bound -/
def hp_in (x : Int32) (n : Nat) : Prop := ∃ j : Nat, j < n ∧ x = nI j
theorem hp_in_mono {x : Int32} {n m : Nat} (h : hp_in x n) (hm : n ≤ m) : hp_in x m := by
  obtain ⟨j, hj, e⟩ := h
  exact ⟨j, by omega, e⟩
theorem hp_of {x : Int32} {M : Int32} {n : Nat} (hM : M.toInt = n) (h : ¬ x < 0) (h5 : x ≤ M) : hp_in x (n + 1) := by
  obtain ⟨j, hj, e⟩ := nI_of2 hM h h5
  exact ⟨j, by omega, e⟩
/-! bits -/
theorem hp_low {x y m : Int32} (k : Nat) (hm : m.toBitVec.toNat = 2 ^ k - 1) (h : ∀ i, i < k → x.toBitVec.getLsbD i = y.toBitVec.getLsbD i) : x &&& m = y &&& m := by
  rw [pk_and x k hm, pk_and y k hm]
  congr 1
  apply Nat.eq_of_testBit_eq
  intro i
  rw [Nat.testBit_mod_two_pow, Nat.testBit_mod_two_pow]
  by_cases hi : i < k
  · have := h i hi
    simp only [BitVec.getLsbD] at this
    rw [this]
  · simp [hi]
theorem hp_ub (x s : Int32) (k i : Nat) (hs : ((s.toUInt32 &&& Int32.toUInt32 31).toBitVec % 32).toNat = k) : (hs_ushr x s).toBitVec.getLsbD i = x.toBitVec.getLsbD (k + i) := by
  have h := pk_ushr x s k hs
  unfold hs_ushr
  simp only [BitVec.getLsbD]
  rw [h, Nat.testBit_div_two_pow, Nat.add_comm]
theorem hp_sb (x s : Int32) (k i : Nat) (hs : (s.toBitVec.smod 32).toNat = k) (hi : k + i < 32) : (x >>> s).toBitVec.getLsbD i = x.toBitVec.getLsbD (k + i) := by
  rw [Int32.toBitVec_shiftRight]
  unfold BitVec.sshiftRight'
  rw [BitVec.getLsbD_sshiftRight, hs]
  have h1 : ¬ 32 ≤ i := by omega
  simp [h1, hi]
theorem hp_xor1 (x y : Int32) : ((x ^^^ y) &&& 1 = 0) ↔ (x &&& 1 = y &&& 1) := by
  have e : (x ^^^ y) &&& 1 = (x &&& 1) ^^^ (y &&& 1) := by
    apply Int32.toBitVec_inj.mp
    show (x.toBitVec ^^^ y.toBitVec) &&& 1#32 = (x.toBitVec &&& 1#32) ^^^ (y.toBitVec &&& 1#32)
    ext i hi
    simp only [BitVec.getElem_and, BitVec.getElem_xor]
    cases x.toBitVec[i] <;> cases y.toBitVec[i] <;> cases (1#32)[i] <;> rfl
  rw [e]
  have h1 := pk_andE x (m := 1) 1 rfl
  have h2 := pk_andE y (m := 1) 1 rfl
  obtain ⟨a, ha, ea⟩ := h1
  obtain ⟨b, hb, eb⟩ := h2
  rw [ea, eb]
  rcases (show a = 0 ∨ a = 1 by omega) with rfl | rfl <;> rcases (show b = 0 ∨ b = 1 by omega) with rfl | rfl <;> decide
/-! one byte into a sum -/
def hp_st (p s b k : Int32) : Int32 := if (s &&& 1) = ((b >>> (k &&& 31)) &&& 1) then s >>> ((1 : Int32) &&& 31) else (s >>> ((1 : Int32) &&& 31)) ^^^ p
def hp_rn (p b : Int32) : Nat → Int32 → Nat → Int32
  | 0, s, _ => s
  | m + 1, s, k => hp_rn p b m (hp_st p s b (nI k)) (k + 1)
def hp_by (p s b : Int32) : Int32 := hp_rn p b 8 s 0
def hp_sp (p : Int32) (M : Nat) : Prop := (p = 6 ∧ M = 8) ∨ (p = 121 ∧ M = 128) ∨ (p = 224 ∧ M = 256)
theorem hp_cond (s b : Int32) {k : Nat} (hk : k < 8) : ((s ^^^ (hs_ushr b (nI k))) &&& (1 : Int32) = 0) ↔ ((s &&& 1) = ((b >>> ((nI k) &&& 31)) &&& 1)) := by
  rw [hp_xor1]
  have e : hs_ushr b (nI k) &&& 1 = (b >>> (nI k &&& 31)) &&& 1 := by
    refine hp_low 1 rfl (fun i hi => ?_)
    have h0 : i = 0 := by omega
    subst h0
    have c1 : ∀ k, k < 8 → ((((nI k).toUInt32 &&& Int32.toUInt32 31).toBitVec % 32).toNat = k) ∧ (((nI k &&& 31).toBitVec.smod 32).toNat = k) := by decide +kernel
    rw [hp_ub b (nI k) k 0 (c1 k hk).1, hp_sb b (nI k &&& 31) k 0 (c1 k hk).2 (by omega)]
  rw [e]
theorem hp_half {p s : Int32} {M : Nat} (hp : hp_sp p M) (hs : hp_in s M) : s >>> ((1 : Int32) &&& 31) = hs_ushr s 1 ∧ hp_in (s >>> ((1 : Int32) &&& 31)) M ∧ hp_in ((s >>> ((1 : Int32) &&& 31)) ^^^ p) M := by
  obtain ⟨j, hj, rfl⟩ := hs
  have key : ∀ j, j < 256 → ((nI j) >>> ((1 : Int32) &&& 31) = hs_ushr (nI j) 1 ∧ (nI j) >>> ((1 : Int32) &&& 31) = nI (j / 2)) ∧ (nI (j / 2) ^^^ 224 = nI ((j / 2) ^^^ 224) ∧ (j / 2) ^^^ 224 < 256) ∧ (j < 128 → nI (j / 2) ^^^ 121 = nI ((j / 2) ^^^ 121) ∧ (j / 2) ^^^ 121 < 128) ∧ (j < 8 → nI (j / 2) ^^^ 6 = nI ((j / 2) ^^^ 6) ∧ (j / 2) ^^^ 6 < 8) := by decide +kernel
  rcases hp with ⟨rfl, rfl⟩ | ⟨rfl, rfl⟩ | ⟨rfl, rfl⟩
  · obtain ⟨⟨k1, k2⟩, k3, k4, k5⟩ := key j (by omega)
    refine ⟨k1, ⟨j / 2, by omega, k2⟩, ⟨_, (k5 hj).2, ?_⟩⟩
    rw [k2, (k5 hj).1]
  · obtain ⟨⟨k1, k2⟩, k3, k4, k5⟩ := key j (by omega)
    refine ⟨k1, ⟨j / 2, by omega, k2⟩, ⟨_, (k4 hj).2, ?_⟩⟩
    rw [k2, (k4 hj).1]
  · obtain ⟨⟨k1, k2⟩, k3, k4, k5⟩ := key j (by omega)
    refine ⟨k1, ⟨j / 2, by omega, k2⟩, ⟨_, k3.2, ?_⟩⟩
    rw [k2, k3.1]
theorem hp_st_in {p s : Int32} {M : Nat} (hp : hp_sp p M) (hs : hp_in s M) (b k : Int32) : hp_in (hp_st p s b k) M := by
  unfold hp_st
  obtain ⟨_, h1, h2⟩ := hp_half hp hs
  by_cases hc : (s &&& 1) = ((b >>> (k &&& 31)) &&& 1)
  · rw [if_pos hc]; exact h1
  · rw [if_neg hc]; exact h2
theorem hp_rn_in {p : Int32} {M : Nat} (hp : hp_sp p M) (b : Int32) : ∀ (m : Nat) (s : Int32) (k : Nat), hp_in s M → hp_in (hp_rn p b m s k) M
  | 0, _, _, h => h
  | m + 1, s, k, h => hp_rn_in hp b m _ (k + 1) (hp_st_in hp h b (nI k))
theorem hp_by_in {p s : Int32} {M : Nat} (hp : hp_sp p M) (b : Int32) (hs : hp_in s M) : hp_in (hp_by p s b) M := hp_rn_in hp b 8 s 0 hs
/-- the class's -/
theorem hp_cB {p : Int32} {M : Nat} (hp : hp_sp p M) (b : Int32) (S : hs_M) : ∀ (m n : Nat) (s : Int32) (k : Nat), m + k = 8 → hp_in s M → f_X1_sumBehind_5 (n + m + 1) p b s (nI k) S = some (hp_rn p b m s k, S)
  | 0, n, s, k, h, hs => by
    have hk : k = 8 := by omega
    subst hk
    show fb_X1_sumBehind_5 _ p b s (nI 8) S = _
    unfold fb_X1_sumBehind_5
    rw [if_pos (show (8 : Int32) ≤ nI 8 by decide)]
    rfl
  | m + 1, n, s, k, h, hs => by
    show fb_X1_sumBehind_5 (f_X1_sumBehind_5 (n + m + 1)) p b s (nI k) S = _
    have hk : k < 8 := by omega
    unfold fb_X1_sumBehind_5
    rw [if_neg (show ¬ (8 : Int32) ≤ nI k from nI_ge (b := 8) hk (by decide))]
    have ih := hp_cB hp b S m n (hp_st p s b (nI k)) (k + 1) (by omega) (hp_st_in hp hs b (nI k))
    have hh := (hp_half hp hs).1
    have hc := hp_cond s b hk
    unfold hp_rn
    by_cases c : (s &&& 1) = ((b >>> ((nI k) &&& 31)) &&& 1)
    · rw [if_pos (hc.mpr c)]
      unfold f_X1_sumBehind_28 f_X1_sumBehind_43
      simp only [hp_l]
      rw [if_pos trivial, nI_1]
      have e : hp_st p s b (nI k) = hs_ushr s 1 := by unfold hp_st; rw [if_pos c, hh]
      rw [e] at ih ⊢
      exact ih
    · rw [if_neg (fun q => c (hc.mp q))]
      unfold f_X1_sumBehind_28 f_X1_sumBehind_43
      simp only [hp_l]
      rw [if_neg (by decide), nI_1]
      have e : hp_st p s b (nI k) = hs_ushr s 1 ^^^ p := by unfold hp_st; rw [if_neg c, hh]
      rw [e] at ih ⊢
      exact ih
theorem hp_cBy {p : Int32} {M : Nat} (hp : hp_sp p M) {s : Int32} (hs : hp_in s M) (b : Int32) (S : hs_M) : f_X1_sumBehind s p b S = some (hp_by p s b, S) := hp_cB hp b S 8 31 s 0 rfl hs
