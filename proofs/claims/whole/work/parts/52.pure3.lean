/-! ===== packets are written ===== -/
def hp_W (p : Nat) (S : hs_M) (bs : List Int32) : hs_M := fun a b => if a = p ∧ b = 1 then nI bs.length else if a = p + 9 ∧ b < bs.length then bs.getD b 0 else S a b
theorem hp_W_o {p : Nat} {S : hs_M} {bs : List Int32} {a : Nat} (h1 : a ≠ p) (h2 : a ≠ p + 9) : hp_W p S bs a = S a := by
  funext b
  unfold hp_W
  rw [if_neg (fun q => h1 q.1), if_neg (fun q => h2 q.1)]
theorem hp_W_l {p : Nat} {S : hs_M} {bs : List Int32} : hp_W p S bs p 1 = nI bs.length := if_pos ⟨rfl, rfl⟩
theorem hp_W_f {p : Nat} {S : hs_M} {bs : List Int32} {b : Nat} (h : b ≠ 1) : hp_W p S bs p b = S p b := by
  unfold hp_W
  rw [if_neg (fun q => h q.2), if_neg (fun q => by omega)]
theorem hp_W_b {p : Nat} {S : hs_M} {bs : List Int32} {b : Nat} (h : b < bs.length) : hp_W p S bs (p + 9) b = bs.getD b 0 := by
  unfold hp_W
  rw [if_neg (fun q => by omega), if_pos ⟨rfl, h⟩]
theorem hp_getD_app {bs : List Int32} {x : Int32} {b : Nat} : (bs ++ [x]).getD b 0 = if b < bs.length then bs.getD b 0 else if b = bs.length then x else 0 := by
  simp only [List.getD_eq_getElem?_getD]
  by_cases h : b < bs.length
  · rw [if_pos h, List.getElem?_append_left h]
  · rw [if_neg h, List.getElem?_append_right (by omega)]
    by_cases h2 : b = bs.length
    · subst h2
      rw [if_pos rfl, Nat.sub_self]
      rfl
    · rw [if_neg h2, List.getElem?_eq_none (by rw [List.length_singleton]; omega)]
      rfl
theorem hp_N17 {p : Nat} (h : 6 ≤ p ∧ p < 15) : hs_N (p + 9) = 17 := by
  unfold hs_N
  rw [if_neg (by omega), if_pos (by omega)]
theorem hp_K3 {p : Nat} (h : 6 ≤ p ∧ p < 15) : hs_K p = 3 := by
  have key : ∀ p, p < 15 → 6 ≤ p → hs_K p = 3 := by decide +kernel
  exact key p h.2 h.1
theorem hp_cPut {p : Nat} (hp : 6 ≤ p ∧ p < 15) (S : hs_M) (bs : List Int32) (x : Int32) (hl : bs.length < 17) : f_X3_put p x (hp_W p S bs) = some (hp_W p S (bs ++ [x])) := by
  unfold f_X3_put f_X3_put_0 f_X3_put_29
  rw [hp_W_l, if_neg (show ¬ (17 : Int32) ≤ nI bs.length from nI_ge (b := 17) hl (by decide)), hp_N17 hp, hp_ix hl, hp_l, hp_l, nI_clamp (by omega), hp_U2 (show p ≠ p + 9 by omega), hp_W_l, nI_1]
  congr 1
  funext a b
  by_cases h1 : a = p ∧ b = 1
  · obtain ⟨rfl, rfl⟩ := h1
    rw [hp_U1, hp_W_l, List.length_append]
    rfl
  · have e1 : hs_U (hs_U (hp_W p S bs) (p + 9) bs.length x) p 1 (nI (bs.length + 1)) a b = hs_U (hp_W p S bs) (p + 9) bs.length x a b := if_neg h1
    rw [e1]
    unfold hs_U hp_W
    rw [if_neg h1, if_neg h1]
    by_cases h2 : a = p + 9
    · subst h2
      rw [List.length_append, List.length_singleton]
      by_cases h3 : b < bs.length
      · rw [if_neg (fun q => by omega), if_pos ⟨rfl, h3⟩, if_pos ⟨rfl, by omega⟩, hp_getD_app, if_pos h3]
      · by_cases h4 : b = bs.length
        · rw [if_pos ⟨rfl, h4⟩, if_pos ⟨rfl, by omega⟩, hp_getD_app, if_neg h3, if_pos h4]
        · rw [if_neg (fun q => h4 q.2), if_neg (fun q => h3 q.2), if_neg (fun q => by omega)]
    · rw [if_neg (fun q => h2 q.1), if_neg (fun q => h2 q.1), if_neg (fun q => h2 q.1)]
theorem hp_W_nil (p : Nat) (S : hs_M) : hs_U S p 1 0 = hp_W p S [] := by
  funext a b
  unfold hs_U hp_W
  by_cases h1 : a = p ∧ b = 1
  · rw [if_pos h1, if_pos h1]
    rfl
  · rw [if_neg h1, if_neg h1, if_neg (fun q => Nat.not_lt_zero _ q.2)]
theorem hp_W1 {p : Nat} (hp : 6 ≤ p ∧ p < 15) {S : hs_M} {bs : List Int32} : hp_W p S bs 1 = S 1 := hp_W_o (by omega) (by omega)
/-- mark, number, time, id and the sum -/
def hp_mv (h : Nat → Int32) (su : Int32) : List Int32 := [hp_mb (h 2), hp_part h 3, hp_part h 4, hp_part h 5, hp_part h 6, hp_part h 7, hp_part h 8, hp_part h 9, hp_part h 10, su]
def hp_bd (k : Nat) (h : Nat → Int32) (st su low : Int32) : List Int32 := if k = 0 then [low * 8 + su] else if k = 1 then [128 + low, hp_mb (h 2) + su] else if k = 2 then [192 + hs_ushr low 5, (low &&& 31) * 8 + (if h 2 = 0 then 0 else 4), su] else if k = 3 then 248 :: hp_mv h su else [253, hs_ushr (h 0) 8, h 0 &&& 255, h 1, hs_ushr st 8, st &&& 255] ++ hp_mv h su
theorem hp_cPm {p : Nat} (hp : 6 ≤ p ∧ p < 15) (S : hs_M) (su : Int32) {i : Nat} (hi : i < 11) (n : Nat) (bs : List Int32) (hl : bs.length < 17) : f_X3_putMoving_10 (n + 1) p 1 su (nI i) (hp_W p S bs) = f_X3_putMoving_10 n p 1 su (nI (i + 1)) (hp_W p S (bs ++ [hp_part (S 1) i])) := by
  show fb_X3_putMoving_10 _ _ _ _ _ _ = _
  unfold fb_X3_putMoving_10
  rw [if_neg (show ¬ (11 : Int32) ≤ nI i from nI_ge (b := 11) hi (by decide)), hp_cPart 1 _ hi, hp_b2, hp_W1 hp, hp_cPut hp S bs _ hl, hp_b1, hp_l, nI_1]
theorem hp_cPmE {p : Nat} (hp : 6 ≤ p ∧ p < 15) (S : hs_M) (su : Int32) (n : Nat) (bs : List Int32) (hl : bs.length < 17) : f_X3_putMoving_10 (n + 1) p 1 su (nI 11) (hp_W p S bs) = some (hp_W p S (bs ++ [su])) := by
  show fb_X3_putMoving_10 _ _ _ _ _ _ = _
  unfold fb_X3_putMoving_10
  rw [if_pos (show (11 : Int32) ≤ nI 11 by decide), hp_cPut hp S bs _ hl, hp_b1]
theorem hp_cPM {p : Nat} (hp : 6 ≤ p ∧ p < 15) (S : hs_M) (su : Int32) (bs : List Int32) (hl : bs.length ≤ 7) : f_X3_putMoving p 1 su (hp_W p S bs) = some (hp_W p S (bs ++ hp_mv (S 1) su)) := by
  unfold f_X3_putMoving f_X3_putMoving_0
  rw [hp_markBit, hp_b2, hp_W1 hp, hp_cPut hp S bs _ (by omega), hp_b1]
  have e0 : f_X3_putMoving_10 hs_fuel p 1 su 3 (hp_W p S (bs ++ [hp_mb (S 1 2)])) = f_X3_putMoving_10 (31 + 8 + 1) p 1 su (nI 3) (hp_W p S (bs ++ [hp_mb (S 1 2)])) := rfl
  rw [e0, hp_cPm hp S su (i := 3) (by omega) _ _ (by simp; omega), hp_cPm hp S su (i := 4) (by omega) _ _ (by simp; omega), hp_cPm hp S su (i := 5) (by omega) _ _ (by simp; omega), hp_cPm hp S su (i := 6) (by omega) _ _ (by simp; omega), hp_cPm hp S su (i := 7) (by omega) _ _ (by simp; omega), hp_cPm hp S su (i := 8) (by omega) _ _ (by simp; omega), hp_cPm hp S su (i := 9) (by omega) _ _ (by simp; omega), hp_cPm hp S su (i := 10) (by omega) _ _ (by simp; omega), hp_cPmE hp S su _ _ (by simp; omega)]
  simp only [List.append_assoc]
  rfl
theorem hp_cP2 {p : Nat} (hp : 6 ≤ p ∧ p < 15) (S : hs_M) (bs : List Int32) (x : Int32) (hl : bs.length < 16) : f_X3_putTwo p x (hp_W p S bs) = some (hp_W p S (bs ++ [hs_ushr x 8, x &&& 255])) := by
  unfold f_X3_putTwo f_X3_putTwo_0
  rw [hp_cPut hp S bs _ (by omega), hp_b1, hp_cPut hp S _ _ (by simp; omega), hp_b1, List.append_assoc]
  rfl
theorem hp_cWk {p : Nat} (hp : 6 ≤ p ∧ p < 15) (S : hs_M) {k : Nat} (hk : k ≤ 4) (st su low : Int32) (bs : List Int32) (hl : bs.length ≤ 1) : f_X3_write_48 p (nI k) 1 st su low (hp_W p S bs) = some (hp_W p S (bs ++ hp_bd k (S 1) st su low)) := by
  rcases (show k = 0 ∨ k = 1 ∨ k = 2 ∨ k = 3 ∨ k = 4 by omega) with rfl | rfl | rfl | rfl | rfl
  · refine (show _ = hs_b1 (f_X3_put p ((low * (8 : Int32)) + su) (hp_W p S bs)) (fun S_2 => f_X3_write_218 S_2) from rfl).trans ?_
    rw [hp_cPut hp S bs _ (by omega)]
    rfl
  · refine (show _ = hs_b1 (f_X3_put p ((128 : Int32) + low) (hp_W p S bs)) (fun S_5 => hs_b2 (f_X1_markBit 1 S_5) (fun r_9 S_7 => hs_b1 (f_X3_put p (r_9 + su) S_7) (fun S_10 => f_X3_write_218 S_10))) from rfl).trans ?_
    rw [hp_cPut hp S bs _ (by omega), hp_b1, hp_markBit, hp_b2, hp_W1 hp, hp_cPut hp S _ _ (by simp; omega), hp_b1, List.append_assoc]
    rfl
  · refine (show _ = hs_b1 (f_X3_put p ((192 : Int32) + (hs_ushr low (5 : Int32))) (hp_W p S bs)) (fun S_13 => (if (S_13 1 2) = 0 then f_X3_write_152 p su p ((low &&& (31 : Int32)) * (8 : Int32)) (0 : Int32) S_13 else f_X3_write_152 p su p ((low &&& (31 : Int32)) * (8 : Int32)) (4 : Int32) S_13)) from rfl).trans ?_
    rw [hp_cPut hp S bs _ (by omega), hp_b1, hp_W1 hp]
    unfold f_X3_write_152
    show _ = some (hp_W p S (bs ++ [192 + hs_ushr low 5, (low &&& 31) * 8 + (if S 1 2 = 0 then 0 else 4), su]))
    by_cases c : S 1 2 = 0
    · rw [if_pos c, if_pos c, hp_cPut hp S _ _ (by simp; omega), hp_b1, hp_cPut hp S _ _ (by simp; omega), hp_b1, List.append_assoc, List.append_assoc]
      rfl
    · rw [if_neg c, if_neg c, hp_cPut hp S _ _ (by simp; omega), hp_b1, hp_cPut hp S _ _ (by simp; omega), hp_b1, List.append_assoc, List.append_assoc]
      rfl
  · refine (show _ = hs_b1 (f_X3_put p (248 : Int32) (hp_W p S bs)) (fun S_16 => hs_b1 (f_X3_putMoving p 1 su S_16) (fun S_18 => f_X3_write_218 S_18)) from rfl).trans ?_
    rw [hp_cPut hp S bs _ (by omega), hp_b1, hp_cPM hp S _ _ (by simp; omega), hp_b1, List.append_assoc]
    rfl
  · refine (show _ = hs_b1 (f_X3_put p (253 : Int32) (hp_W p S bs)) (fun S_20 => hs_b1 (f_X3_putTwo p (S_20 1 0) S_20) (fun S_22 => hs_b1 (f_X3_put p (S_22 1 1) S_22) (fun S_24 => hs_b1 (f_X3_putTwo p st S_24) (fun S_26 => hs_b1 (f_X3_putMoving p 1 su S_26) (fun S_28 => f_X3_write_218 S_28))))) from rfl).trans ?_
    rw [hp_cPut hp S bs _ (by omega), hp_b1, hp_W1 hp, hp_cP2 hp S _ _ (by simp; omega), hp_b1, hp_W1 hp, hp_cPut hp S _ _ (by simp; omega), hp_b1, hp_cP2 hp S _ _ (by simp; omega), hp_b1, hp_cPM hp S _ _ (by simp; omega), hp_b1]
    simp only [List.append_assoc]
    rfl
def hp_lo (k : Nat) (n : Int32) : Int32 := if k = 0 then n &&& 15 else if k = 1 then n &&& 63 else if k = 2 then n &&& 1023 else 0
def hp_pre (f : Nat) : List Int32 := if f = 0 then [] else [224 + nI f]
def hp_bts (f k : Nat) (h : Nat → Int32) (st : Int32) : List Int32 := hp_pre f ++ hp_bd k h st (hp_su h st k) (hp_lo k (h 3))
theorem hp_cWrite {p : Nat} (hp : 6 ≤ p ∧ p < 15) (S : hs_M) {f k : Nat} (hf : f < 4) (hk : k ≤ 4) (st : Int32) : f_X3_write p (nI f) (nI k) 1 st S = some (hp_W p S (hp_bts f k (S 1) st)) := by
  unfold f_X3_write f_X3_write_0
  rw [hp_cSum 1 hk st S, hp_b2]
  have key : ∀ low : Int32, f_X3_write_28 p (nI f) (nI k) 1 st (hp_su (S 1) st k) low S = some (hp_W p S (hp_pre f ++ hp_bd k (S 1) st (hp_su (S 1) st k) low)) := by
    intro low
    unfold f_X3_write_28
    rw [hp_l, hp_W_nil]
    unfold hp_pre
    by_cases c : f = 0
    · subst c
      rw [if_pos (by rfl), if_pos rfl, hp_cWk hp S hk _ _ _ _ (by simp)]
    · rw [if_neg (show ¬ nI f = 0 from nI_ne0 (by omega) (by omega)), if_neg c, hp_cPut hp S _ _ (by simp), hp_b1, hp_cWk hp S hk _ _ _ _ (by simp)]
      rfl
  unfold hp_bts hp_lo
  rcases (show k = 0 ∨ k = 1 ∨ k = 2 ∨ k = 3 ∨ k = 4 by omega) with rfl | rfl | rfl | rfl | rfl
  · exact key (S 1 3 &&& 15)
  · exact key (S 1 3 &&& 63)
  · exact key (S 1 3 &&& 1023)
  · exact key 0
  · exact key 0
