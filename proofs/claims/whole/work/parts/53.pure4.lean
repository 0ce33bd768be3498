/-! ===== the reference writes ===== -/
def hp_V (S : hs_M) (bs : List Int32) : hs_M := fun a b => if a = 100 ∧ b = 31 then nI bs.length else if a = 127 ∧ b < bs.length then bs.getD b 0 else S a b
theorem hp_V_o {S : hs_M} {bs : List Int32} {a : Nat} (h1 : a ≠ 100) (h2 : a ≠ 127) : hp_V S bs a = S a := by
  funext b
  unfold hp_V
  rw [if_neg (fun q => h1 q.1), if_neg (fun q => h2 q.1)]
theorem hp_V_l {S : hs_M} {bs : List Int32} : hp_V S bs 100 31 = nI bs.length := if_pos ⟨rfl, rfl⟩
theorem hp_V_f {S : hs_M} {bs : List Int32} {b : Nat} (h : b ≠ 31) : hp_V S bs 100 b = S 100 b := by
  unfold hp_V
  rw [if_neg (fun q => h q.2), if_neg (fun q => by omega)]
theorem hp_V_b {S : hs_M} {bs : List Int32} {b : Nat} (h : b < bs.length) : hp_V S bs 127 b = bs.getD b 0 := by
  unfold hp_V
  rw [if_neg (fun q => by omega), if_pos ⟨rfl, h⟩]
theorem hp_mPut (S : hs_M) (bs : List Int32) (x : Int32) (hl : bs.length < 20) : f_X7_put x (hp_V S bs) = some (hp_V S (bs ++ [x])) := by
  unfold f_X7_put f_X7_put_0
  rw [hp_V_l, hp_ix (show bs.length < hs_N 127 from hl), hp_l, hp_l, nI_clamp (by omega), hp_U2 (show (100 : Nat) ≠ 127 by omega), hp_V_l, nI_1]
  congr 1
  funext a b
  by_cases h1 : a = 100 ∧ b = 31
  · obtain ⟨rfl, rfl⟩ := h1
    rw [hp_U1, hp_V_l, List.length_append]
    rfl
  · have e1 : hs_U (hs_U (hp_V S bs) 127 bs.length x) 100 31 (nI (bs.length + 1)) a b = hs_U (hp_V S bs) 127 bs.length x a b := if_neg h1
    rw [e1]
    unfold hs_U hp_V
    rw [if_neg h1, if_neg h1]
    by_cases h2 : a = 127
    · subst h2
      rw [List.length_append, List.length_singleton]
      by_cases h3 : b < bs.length
      · rw [if_neg (fun q => by omega), if_pos ⟨rfl, h3⟩, if_pos ⟨rfl, by omega⟩, hp_getD_app, if_pos h3]
      · by_cases h4 : b = bs.length
        · rw [if_pos ⟨rfl, h4⟩, if_pos ⟨rfl, by omega⟩, hp_getD_app, if_neg h3, if_pos h4]
        · rw [if_neg (fun q => h4 q.2), if_neg (fun q => h3 q.2), if_neg (fun q => by omega)]
    · rw [if_neg (fun q => h2 q.1), if_neg (fun q => h2 q.1), if_neg (fun q => h2 q.1)]
theorem hp_V_nil (S : hs_M) : hs_U S 100 31 0 = hp_V S [] := by
  funext a b
  unfold hs_U hp_V
  by_cases h1 : a = 100 ∧ b = 31
  · rw [if_pos h1, if_pos h1]
    rfl
  · rw [if_neg h1, if_neg h1, if_neg (fun q => Nat.not_lt_zero _ q.2)]
theorem hp_V_U {S : hs_M} {bs : List Int32} {i k : Nat} {x : Int32} (h1 : i ≠ 100) (h2 : i ≠ 127) : hs_U (hp_V S bs) i k x = hp_V (hs_U S i k x) bs := by
  funext a b
  unfold hs_U hp_V
  dsimp only
  by_cases h : a = i ∧ b = k
  · obtain ⟨rfl, rfl⟩ := h
    rw [if_pos ⟨rfl, rfl⟩, if_neg (fun q => h1 q.1), if_neg (fun q => h2 q.1), if_pos ⟨rfl, rfl⟩]
  · rw [if_neg h, if_neg h]
theorem hp_V126 {S : hs_M} {bs : List Int32} : hp_V S bs 126 = S 126 := hp_V_o (by decide) (by decide)
/-- what the reference puts behind a head's own bytes -/
def hp_mr (g : Nat → Int32) (N : Nat) : List Int32 := [g 2 &&& 128, g 3, g 4, g 5, g 6, g 7, g 8, g 9, g 10, hp_sm 224 g N 255 0]
theorem hp_mPr (S : hs_M) {N : Nat} {i : Nat} (hi : i < 11) (n : Nat) (bs : List Int32) (hl : bs.length < 20) : f_X7_putRest_16 (n + 1) (nI N) (nI i) (hp_V S bs) = f_X7_putRest_16 n (nI N) (nI (i + 1)) (hp_V S (bs ++ [S 126 i])) := by
  show fb_X7_putRest_16 _ _ _ _ = _
  unfold fb_X7_putRest_16
  rw [if_neg (show ¬ (11 : Int32) ≤ nI i from nI_ge (b := 11) hi (by decide)), hp_ix (show i < hs_N 126 by show i < 13; omega), nI_clamp (by omega), hp_V126, hp_mPut S bs _ hl, hp_b1, hp_l, nI_1]
theorem hp_mPrE (S : hs_M) {N : Nat} (hN : N ≤ 13) (n : Nat) (bs : List Int32) (hl : bs.length < 20) : f_X7_putRest_16 (n + 1) (nI N) (nI 11) (hp_V S bs) = some (hp_V S (bs ++ [hp_sm 224 (S 126) N 255 0])) := by
  show fb_X7_putRest_16 _ _ _ _ = _
  unfold fb_X7_putRest_16
  rw [if_pos (show (11 : Int32) ≤ nI 11 by decide), hp_mS8 _ hN, hp_b2, hp_V126, hp_mPut S bs _ hl, hp_b1]
theorem hp_mPR (S : hs_M) {N : Nat} (hN : N ≤ 13) (bs : List Int32) (hl : bs.length ≤ 10) : f_X7_putRest (nI N) (hp_V S bs) = some (hp_V S (bs ++ hp_mr (S 126) N)) := by
  unfold f_X7_putRest f_X7_putRest_0
  rw [hp_V126]
  refine (show _ = hs_b1 (f_X7_put (S 126 2 &&& 128) (hp_V S bs)) (fun S_1 => f_X7_putRest_16 (31 + 8 + 1) (nI N) (nI 3) S_1) from rfl).trans ?_
  rw [hp_mPut S bs _ (by omega), hp_b1, hp_mPr S (i := 3) (by omega) _ _ (by simp; omega), hp_mPr S (i := 4) (by omega) _ _ (by simp; omega), hp_mPr S (i := 5) (by omega) _ _ (by simp; omega), hp_mPr S (i := 6) (by omega) _ _ (by simp; omega), hp_mPr S (i := 7) (by omega) _ _ (by simp; omega), hp_mPr S (i := 8) (by omega) _ _ (by simp; omega), hp_mPr S (i := 9) (by omega) _ _ (by simp; omega), hp_mPr S (i := 10) (by omega) _ _ (by simp; omega), hp_mPrE S hN _ _ (by simp; omega)]
  simp only [List.append_assoc]
  rfl
theorem hp_rems {x : Int32} (hx : hp_in x 65536) : hs_rem x 16 = x &&& 15 ∧ hs_rem x 64 = x &&& 63 ∧ hs_rem x 1024 / 32 = hs_ushr (x &&& 1023) 5 ∧ hs_rem x 32 = (x &&& 1023) &&& 31 := by
  obtain ⟨j, hj, rfl⟩ := hx
  have r : ∀ d : Nat, 0 < d → d < 2 ^ 31 → hs_rem (nI j) (nI d) = nI (j % d) := fun d h0 h1 => pk_rem (by omega) h0 h1
  have a4 : nI j &&& 15 = nI (j % 2 ^ 4) := pk_andN (by omega) 4 rfl
  have a6 : nI j &&& 63 = nI (j % 2 ^ 6) := pk_andN (by omega) 6 rfl
  have a10 : nI j &&& 1023 = nI (j % 2 ^ 10) := pk_andN (by omega) 10 rfl
  have a5 : nI (j % 2 ^ 10) &&& 31 = nI (j % 2 ^ 10 % 2 ^ 5) := pk_andN (by omega) 5 rfl
  have u5 : hs_ushr (nI (j % 2 ^ 10)) 5 = nI (j % 2 ^ 10 / 2 ^ 5) := pk_ushrN (by omega) 5 5 (by decide)
  refine ⟨(r 16 (by decide) (by decide)).trans a4.symm, (r 64 (by decide) (by decide)).trans a6.symm, ?_, ?_⟩
  · rw [a10, u5]
    refine Eq.trans (congrArg (· / (32 : Int32)) (r 1024 (by decide) (by decide))) ?_
    exact pk_div (d := 32) (by omega) (by decide) (by decide)
  · rw [a10, a5, show j % 2 ^ 10 % 2 ^ 5 = j % 32 by omega]
    exact r 32 (by decide) (by decide)
theorem hp_mbit {t m : Int32} (ht : hp_in t 128) : (t + hp_mb m) &&& 128 = hp_mb m := by
  obtain ⟨j, hj, rfl⟩ := ht
  have key : ∀ j, j < 128 → (nI j + 0) &&& 128 = 0 ∧ (nI j + 128) &&& 128 = 128 := by decide +kernel
  unfold hp_mb
  by_cases c : m = 0
  · rw [if_pos c]; exact (key j hj).1
  · rw [if_neg c]; exact (key j hj).2
theorem hp_mW18 (S : hs_M) (h : Nat → Int32) (st : Int32) {f k : Nat} (hf : f < 4) (hk : k ≤ 4) (h126 : ∀ i, i < 11 → S 126 i = hp_part h i) (hm : S 100 3 = h 2) (ht : S 100 2 = h 1) (hst : S 101 f = st) (r1 : hp_in (h 1) 128) (r3 : hp_in (h 3) 65536) (rst : hp_in st 65536) (bs : List Int32) (hl : bs.length ≤ 1) : ∃ S', (∀ i, i ≠ 126 → S' i = S i) ∧ f_X7_write_18 (nI f) (nI k) (h 3) (hp_V S bs) = some (hp_V S' (bs ++ hp_bd k h st (hp_su h st k) (hp_lo k (h 3)))) := by
  obtain ⟨q1, q2, q3, q4⟩ := hp_rems r3
  have e11 : ∀ p s, hp_sm p (S 126) 11 s 0 = hp_sm p (hp_pst h st) 11 s 0 := fun p s => hp_sm_congr 11 s 0 (fun j _ hj => by
    rw [h126 j (by omega)]
    unfold hp_pst
    rw [if_neg (by omega), if_neg (by omega)])
  have erest : ∀ g : Nat → Int32, (∀ i, i < 11 → g i = hp_part h i) → ∀ N su, hp_sm 224 g N 255 0 = su → hp_mr g N = hp_mv h su := by
    intro g hg N su hsu
    unfold hp_mr hp_mv
    rw [hsu, hg 2 (by omega), hg 3 (by omega), hg 4 (by omega), hg 5 (by omega), hg 6 (by omega), hg 7 (by omega), hg 8 (by omega), hg 9 (by omega), hg 10 (by omega)]
    rw [show hp_part h 2 &&& 128 = hp_mb (h 2) from hp_mbit r1]
  rcases (show k = 0 ∨ k = 1 ∨ k = 2 ∨ k = 3 ∨ k = 4 by omega) with rfl | rfl | rfl | rfl | rfl
  · refine ⟨S, fun _ _ => rfl, ?_⟩
    refine (show _ = hs_b2 (f_X7_sum 3 (nI 11) (hp_V S bs)) (fun r_27 S_25 => hs_b1 (f_X7_put (((hs_rem (h 3) (16 : Int32)) * (8 : Int32)) + r_27) S_25) (fun S_28 => f_X7_write_269 S_28)) from rfl).trans ?_
    rw [hp_mS3 _ (by decide), hp_b2, hp_V126, hp_mPut S bs _ (by omega), hp_b1, q1, e11]
    rfl
  · refine ⟨S, fun _ _ => rfl, ?_⟩
    refine (show _ = hs_b1 (f_X7_put ((128 : Int32) + (hs_rem (h 3) (64 : Int32))) (hp_V S bs)) (fun S_23 => (if (S_23 100 3) = 0 then f_X7_write_76 (0 : Int32) S_23 else f_X7_write_76 (128 : Int32) S_23)) from rfl).trans ?_
    rw [hp_mPut S bs _ (by omega), hp_b1, hp_V_f (by decide), hm]
    have k1 : ∀ y : Int32, f_X7_write_76 y (hp_V S (bs ++ [128 + hs_rem (h 3) 64])) = some (hp_V S ((bs ++ [128 + hs_rem (h 3) 64]) ++ [y + hp_su h st 1])) := by
      intro y
      refine (show _ = hs_b2 (f_X7_sum 7 (nI 11) (hp_V S (bs ++ [128 + hs_rem (h 3) 64]))) (fun r_3 S_1 => hs_b1 (f_X7_put (y + r_3) S_1) (fun S_4 => f_X7_write_269 S_4)) from rfl).trans ?_
      rw [hp_mS7 _ (by decide), hp_b2, hp_V126, hp_mPut S _ _ (by simp; omega), hp_b1, e11]
      rfl
    have k2 : (if h 2 = 0 then f_X7_write_76 0 (hp_V S (bs ++ [128 + hs_rem (h 3) 64])) else f_X7_write_76 128 (hp_V S (bs ++ [128 + hs_rem (h 3) 64]))) = some (hp_V S ((bs ++ [128 + hs_rem (h 3) 64]) ++ [hp_mb (h 2) + hp_su h st 1])) := by
      unfold hp_mb
      by_cases c : h 2 = 0
      · rw [if_pos c, if_pos c]; exact k1 0
      · rw [if_neg c, if_neg c]; exact k1 128
    rw [k2, List.append_assoc, q2]
    rfl
  · refine ⟨S, fun _ _ => rfl, ?_⟩
    refine (show _ = hs_b1 (f_X7_put ((192 : Int32) + ((hs_rem (h 3) (1024 : Int32)) / (32 : Int32))) (hp_V S bs)) (fun S_21 => (if (S_21 100 3) = 0 then f_X7_write_132 ((hs_rem (h 3) (32 : Int32)) * (8 : Int32)) (0 : Int32) S_21 else f_X7_write_132 ((hs_rem (h 3) (32 : Int32)) * (8 : Int32)) (4 : Int32) S_21)) from rfl).trans ?_
    rw [hp_mPut S bs _ (by omega), hp_b1, hp_V_f (by decide), hm, q3, q4]
    have k1 : ∀ y z : Int32, f_X7_write_132 y z (hp_V S (bs ++ [192 + hs_ushr (h 3 &&& 1023) 5])) = some (hp_V S ((bs ++ [192 + hs_ushr (h 3 &&& 1023) 5]) ++ [y + z, hp_su h st 2])) := by
      intro y z
      refine (show _ = hs_b1 (f_X7_put (y + z) (hp_V S (bs ++ [192 + hs_ushr (h 3 &&& 1023) 5]))) (fun S_1 => hs_b2 (f_X7_sum 8 (nI 11) S_1) (fun r_5 S_3 => hs_b1 (f_X7_put r_5 S_3) (fun S_6 => f_X7_write_269 S_6))) from rfl).trans ?_
      rw [hp_mPut S _ _ (by simp; omega), hp_b1, hp_mS8 _ (by decide), hp_b2, hp_V126, hp_mPut S _ _ (by simp; omega), hp_b1, e11, List.append_assoc _ [y + z]]
      rfl
    have k2 : (if h 2 = 0 then f_X7_write_132 ((h 3 &&& 1023 &&& 31) * 8) 0 (hp_V S (bs ++ [192 + hs_ushr (h 3 &&& 1023) 5])) else f_X7_write_132 ((h 3 &&& 1023 &&& 31) * 8) 4 (hp_V S (bs ++ [192 + hs_ushr (h 3 &&& 1023) 5]))) = some (hp_V S ((bs ++ [192 + hs_ushr (h 3 &&& 1023) 5]) ++ [(h 3 &&& 1023 &&& 31) * 8 + (if h 2 = 0 then 0 else 4), hp_su h st 2])) := by
      by_cases c : h 2 = 0
      · rw [if_pos c, if_pos c]; exact k1 _ 0
      · rw [if_neg c, if_neg c]; exact k1 _ 4
    rw [k2, List.append_assoc]
    rfl
  · refine ⟨S, fun _ _ => rfl, ?_⟩
    refine (show _ = hs_b1 (f_X7_put (248 : Int32) (hp_V S bs)) (fun S_17 => hs_b1 (f_X7_putRest (nI 11) S_17) (fun S_19 => f_X7_write_269 S_19)) from rfl).trans ?_
    rw [hp_mPut S bs _ (by omega), hp_b1, hp_mPR S (by decide) _ (by simp; omega), hp_b1, erest (S 126) h126 11 (hp_su h st 3) (e11 224 255), List.append_assoc]
    rfl
  · have w1 := (hp_hi8 rst (by decide)).1
    have w2 := (hp_hi8 rst (by decide)).2
    have hgo : ∀ (S2 : hs_M), S2 = hs_U (hs_U S 126 11 (hs_ushr st 8)) 126 12 (st &&& 255) → ∃ S', (∀ i, i ≠ 126 → S' i = S i) ∧ hs_b1 (f_X7_put (253 : Int32) (hp_V S2 bs)) (fun S_3 => hs_b1 (f_X7_put (S_3 126 0) S_3) (fun S_5 => hs_b1 (f_X7_put (S_5 126 1) S_5) (fun S_7 => hs_b1 (f_X7_put (S_7 100 2) S_7) (fun S_9 => hs_b1 (f_X7_put (S_9 126 11) S_9) (fun S_11 => hs_b1 (f_X7_put (S_11 126 12) S_11) (fun S_13 => hs_b1 (f_X7_putRest (nI 13) S_13) (fun S_15 => f_X7_write_269 S_15))))))) = some (hp_V S' (bs ++ hp_bd 4 h st (hp_su h st 4) (hp_lo 4 (h 3)))) := by
      intro S2 hS2
      have g : ∀ i, i < 13 → S2 126 i = hp_pst h st i := by
        intro i hi
        subst hS2
        unfold hp_pst
        by_cases i12 : i = 12
        · subst i12
          rw [hp_U1, if_neg (by decide), if_pos rfl]
        · rw [hp_U3 i12]
          by_cases i11 : i = 11
          · subst i11
            rw [hp_U1, if_pos rfl]
          · rw [hp_U3 i11, if_neg i11, if_neg i12, h126 i (by omega)]
      have g11 : ∀ i, i < 11 → S2 126 i = hp_part h i := by
        intro i hi
        rw [g i (by omega)]
        unfold hp_pst
        rw [if_neg (by omega), if_neg (by omega)]
      have ho : ∀ i, i ≠ 126 → S2 i = S i := by
        intro i hi
        subst hS2
        funext b
        rw [hp_U2 hi, hp_U2 hi]
      refine ⟨S2, ho, ?_⟩
      rw [hp_mPut S2 bs _ (by omega), hp_b1, hp_V126, hp_mPut S2 _ _ (by simp; omega), hp_b1, hp_V126, hp_mPut S2 _ _ (by simp; omega), hp_b1, hp_V_f (by decide), hp_mPut S2 _ _ (by simp; omega), hp_b1, hp_V126, hp_mPut S2 _ _ (by simp; omega), hp_b1, hp_V126, hp_mPut S2 _ _ (by simp; omega), hp_b1, hp_mPR S2 (by decide) _ (by simp; omega), hp_b1]
      rw [erest (S2 126) g11 13 (hp_su h st 4) (hp_sm_congr 13 255 0 (fun j _ hj => g j (by omega))), g11 0 (by decide), g11 1 (by decide), ho 100 (by decide), ht, g 11 (by decide), g 12 (by decide)]
      simp only [List.append_assoc]
      rfl
    obtain ⟨S', h1, h2⟩ := hgo _ rfl
    refine ⟨S', h1, ?_⟩
    rw [← h2]
    have e1 : hs_U (hs_U (hp_V S bs) 126 11 (S 101 f / 256)) 126 12 (hs_rem (S 101 f) 256) = hp_V (hs_U (hs_U S 126 11 (hs_ushr st 8)) 126 12 (st &&& 255)) bs := by
      rw [hp_V_U (by decide) (by decide), hp_V_U (by decide) (by decide), hst, w1, w2]
    rw [← e1]
    unfold f_X7_write_18
    rw [if_neg (by decide), if_neg (by decide), if_neg (by decide), if_neg (by decide), hp_ix (show f < hs_N 101 from hf), nI_clamp (by omega)]
    rw [hp_V_o (show (101 : Nat) ≠ 100 by decide) (by decide)]
    refine (show _ = hs_ix (nI f) (hs_N 101) (hs_ix (12 : Int32) (hs_N 126) _) from rfl).trans ?_
    rw [hp_ix (show f < hs_N 101 from hf)]
    rfl
theorem hp_mWrite (S : hs_M) (h : Nat → Int32) (st : Int32) {f k : Nat} (hf : f < 4) (hk : k ≤ 4) (h126 : ∀ i, i < 11 → S 126 i = hp_part h i) (hm : S 100 3 = h 2) (ht : S 100 2 = h 1) (hst : S 101 f = st) (r1 : hp_in (h 1) 128) (r3 : hp_in (h 3) 65536) (rst : hp_in st 65536) : ∃ S', (∀ i, i ≠ 126 → S' i = S i) ∧ f_X7_write (nI f) (nI k) (h 3) S = some (hp_V S' (hp_bts f k h st)) := by
  unfold f_X7_write f_X7_write_0 hp_bts hp_pre
  rw [hp_l, hp_V_nil]
  by_cases c : f = 0
  · subst c
    rw [if_pos (by decide), if_pos rfl]
    exact hp_mW18 S h st hf hk h126 hm ht hst r1 r3 rst [] (by simp)
  · rw [if_neg (show ¬ nI f ≤ 0 from nI_nle (by omega) (by omega)), if_neg c, hp_mPut S _ _ (by simp), hp_b1]
    exact hp_mW18 S h st hf hk h126 hm ht hst r1 r3 rst [224 + nI f] (by simp)
