/-! ===== a packet is read ===== -/
/-- a packet as the class holds it: l bytes b, its own from at on -/
def hp_PK (p l : Nat) (b : Nat → Int32) (S : hs_M) : Prop := (6 ≤ p ∧ p < 15) ∧ l ≤ 17 ∧ S p 1 = nI l ∧ ∀ i, i < l → S (p + 9) i = b i
def hp_MK (l : Nat) (b : Nat → Int32) (M : hs_M) : Prop := M 100 31 = nI l ∧ ∀ i, i < l → M 127 i = b i
theorem hp_own {p l at_ : Nat} {b : Nat → Int32} {S : hs_M} (h : hp_PK p l b S) (ha : S p 4 = nI at_) {i : Nat} (hi : at_ + i < l) : f_X3_own p (nI i) S = some (b (at_ + i), S) := by
  obtain ⟨hp, hl, _, h2⟩ := h
  unfold f_X3_own f_X3_own_0
  rw [ha, hp_l, nI_add, hp_N17 hp, hp_ix (by omega), nI_clamp (by omega), h2 _ hi]
theorem hp_own2 {p l at_ : Nat} {b : Nat → Int32} {S : hs_M} (h : hp_PK p l b S) (ha : S p 4 = nI at_) {i : Nat} (hi : at_ + (i + 1) < l) : f_X3_ownTwo p (nI i) S = some (b (at_ + i) * 256 + b (at_ + (i + 1)), S) := by
  unfold f_X3_ownTwo f_X3_ownTwo_0
  rw [hp_own h ha (i := i) (by omega), hp_b2, nI_1, hp_own h ha hi, hp_b2]
theorem hp_mTwo {l : Nat} {b : Nat → Int32} {M : hs_M} (h : hp_MK l b M) (hl : l ≤ 17) {i : Nat} (hi : i + 1 < l) : f_X7_two (nI i) M = some (256 * b i + b (i + 1), M) := by
  unfold f_X7_two f_X7_two_0
  have x1 : hs_N 127 = 20 := rfl
  rw [hp_l, nI_1, x1, hp_ix (show i < 20 by omega), hp_ix (show i + 1 < 20 by omega), nI_clamp (by omega), nI_clamp (by omega), h.2 i (by omega), h.2 (i + 1) hi]
def hp_kd (x : Int32) : Int32 := if (128 : Int32) ≤ x then (if (192 : Int32) ≤ x then (if (224 : Int32) ≤ x then (if x = (248 : Int32) then 3 else (if x = (253 : Int32) then 4 else -1)) else 2) else 1) else 0
theorem hp_kdC (x : Int32) (S : hs_M) : f_X3_kindTold x S = some (hp_kd x, S) ∧ f_X7_kindOf x S = some (hp_kd x, S) ∧ (hp_kd x = -1 ∨ ∃ k, k ≤ 4 ∧ hp_kd x = nI k) := by
  unfold f_X3_kindTold f_X3_kindTold_0 f_X3_kindTold_48 f_X7_kindOf f_X7_kindOf_0 f_X7_kindOf_56 hp_kd
  by_cases c1 : (128 : Int32) ≤ x
  · simp only [if_pos c1]
    by_cases c2 : (192 : Int32) ≤ x
    · simp only [if_pos c2]
      by_cases c3 : (224 : Int32) ≤ x
      · simp only [if_pos c3]
        by_cases c4 : x = 248
        · simp only [if_pos c4]
          exact ⟨trivial, trivial, Or.inr ⟨3, by decide, rfl⟩⟩
        · simp only [if_neg c4]
          by_cases c5 : x = 253
          · simp only [if_pos c5]
            exact ⟨trivial, trivial, Or.inr ⟨4, by decide, rfl⟩⟩
          · simp only [if_neg c5]
            exact ⟨trivial, trivial, Or.inl trivial⟩
      · simp only [if_neg c3]
        exact ⟨trivial, trivial, Or.inr ⟨2, by decide, rfl⟩⟩
    · simp only [if_neg c2]
      exact ⟨trivial, trivial, Or.inr ⟨1, by decide, rfl⟩⟩
  · simp only [if_neg c1]
    exact ⟨trivial, trivial, Or.inr ⟨0, by decide, rfl⟩⟩
def hp_sz (k : Nat) : Nat := if k = 0 then 1 else if k = 1 then 2 else if k = 2 then 3 else if k = 3 then 11 else 16
theorem hp_noMark {x : Int32} (hx : hp_in x 256) (S : hs_M) : ∃ r : Int32, (r = 0 ∨ r = 1) ∧ f_X3_isNoMark x S = some (r, S) ∧ (r = 0 ↔ x &&& 127 = 0) ∧ (r = 0 → x = 0 ∨ x = 128) := by
  obtain ⟨j, hj, rfl⟩ := hx
  have key : ∀ j, j < 256 → ((nI j = 0 ∨ nI j = 128) ↔ nI j &&& 127 = 0) := by decide +kernel
  unfold f_X3_isNoMark f_X3_isNoMark_0 f_X3_isNoMark_15 f_X3_isNoMark_16
  rw [hp_bg0, hp_bg1]
  by_cases c : nI j = 0
  · rw [if_pos c]
    exact ⟨0, Or.inl rfl, rfl, ⟨fun _ => (key j hj).mp (Or.inl c), fun _ => rfl⟩, fun _ => Or.inl c⟩
  · rw [if_neg c]
    by_cases d : nI j = 128
    · rw [if_pos d]
      exact ⟨0, Or.inl rfl, rfl, ⟨fun _ => (key j hj).mp (Or.inr d), fun _ => rfl⟩, fun _ => Or.inr d⟩
    · rw [if_neg d]
      exact ⟨1, Or.inr rfl, rfl, ⟨fun w => absurd w (by decide), fun w => ((key j hj).mpr w).elim (fun q => absurd q c) (fun q => absurd q d)⟩, fun w => absurd w (by decide)⟩
theorem hp_shape {p l at_ kd : Nat} {b : Nat → Int32} {S M : hs_M} (h : hp_PK p l b S) (ha : S p 4 = nI at_) (hk3 : S p 3 = nI kd) (hk : kd ≤ 4) (hm : hp_MK l b M) (hal : at_ < l) (hB : ∀ i, i < l → hp_in (b i) 256) : ∃ r : Int32, (r = 0 ∨ r = 1) ∧ f_X3_isMisshapen p S = some (r, S) ∧ f_X7_broken (nI kd) (nI at_) M = some (r, M) ∧ (r = 0 → l = at_ + hp_sz kd ∧ (kd = 3 → b (at_ + 1) = 0 ∨ b (at_ + 1) = 128) ∧ (kd = 4 → b (at_ + 6) = 0 ∨ b (at_ + 6) = 128)) := by
  have hl := h.2.1
  have hszC : hs_sv 0 kd = nI (hp_sz kd) ∧ f_X7_sizeOf (nI kd) M = some (nI (hp_sz kd), M) := by
    rcases (show kd = 0 ∨ kd = 1 ∨ kd = 2 ∨ kd = 3 ∨ kd = 4 by omega) with rfl | rfl | rfl | rfl | rfl <;> exact ⟨rfl, rfl⟩
  have hszl : hp_sz kd ≤ 16 := by
    rcases (show kd = 0 ∨ kd = 1 ∨ kd = 2 ∨ kd = 3 ∨ kd = 4 by omega) with rfl | rfl | rfl | rfl | rfl <;> decide
  unfold f_X3_isMisshapen f_X3_isMisshapen_0 f_X7_broken f_X7_broken_0
  rw [hk3, hp_l, hp_ix (show kd < hs_sn 0 by show kd < 5; omega), nI_clamp (by omega), h.2.2.1, ha, hszC.1, if_neg (nI_pos (show kd < 2 ^ 31 by omega)), hszC.2, hp_b2, hm.1, pk_sub (by omega)]
  by_cases hsz : l - at_ = hp_sz kd
  · rw [hsz, if_pos rfl, if_pos rfl]
    have hl2 : l = at_ + hp_sz kd := by omega
    have x1 : hs_N 127 = 20 := rfl
    have mo : ∀ i, at_ + i < l → nI at_ + nI i = nI (at_ + i) ∧ M 127 (at_ + i) = b (at_ + i) := fun i hi => ⟨nI_add _ _, hm.2 _ hi⟩
    rcases (show kd = 0 ∨ kd = 1 ∨ kd = 2 ∨ kd = 3 ∨ kd = 4 by omega) with rfl | rfl | rfl | rfl | rfl
    · exact ⟨0, Or.inl rfl, rfl, rfl, fun _ => ⟨hl2, fun w => by omega, fun w => by omega⟩⟩
    · exact ⟨0, Or.inl rfl, rfl, rfl, fun _ => ⟨hl2, fun w => by omega, fun w => by omega⟩⟩
    · have hl3 : l = at_ + 3 := hl2
      have o1 : f_X3_own p 1 S = some (b (at_ + 1), S) := hp_own h ha (i := 1) (by omega)
      refine ⟨if b (at_ + 1) &&& 3 = 0 then 0 else 1, ?_, ?_, ?_, fun _ => ⟨hl2, fun w => by omega, fun w => by omega⟩⟩
      · by_cases c : b (at_ + 1) &&& 3 = 0
        · rw [if_pos c]; exact Or.inl rfl
        · rw [if_neg c]; exact Or.inr rfl
      · refine (show _ = hs_b2 (f_X3_own p (1 : Int32) S) (fun r_6 S_4 => (if (r_6 &&& (3 : Int32)) = 0 then f_X3_isMisshapen_67 (0 : Int32) S_4 else f_X3_isMisshapen_67 (1 : Int32) S_4)) from rfl).trans ?_
        rw [o1, hp_b2]
        by_cases c : b (at_ + 1) &&& 3 = 0
        · rw [if_pos c, if_pos c]; rfl
        · rw [if_neg c, if_neg c]; rfl
      · refine (show _ = hs_l (nI at_ + (1 : Int32)) (fun x_7 => hs_ix x_7 (hs_N 127) ((if ((M 127 x_7.toNatClampNeg) &&& (3 : Int32)) = 0 then f_X7_broken_43 (0 : Int32) M else f_X7_broken_43 (1 : Int32) M))) from rfl).trans ?_
        rw [hp_l, nI_1, x1, hp_ix (show at_ + 1 < 20 by omega), nI_clamp (by omega), (mo 1 (by omega)).2]
        by_cases c : b (at_ + 1) &&& 3 = 0
        · rw [if_pos c, if_pos c]; rfl
        · rw [if_neg c, if_neg c]; rfl
    · have hl3 : l = at_ + 11 := hl2
      have o1 : f_X3_own p 1 S = some (b (at_ + 1), S) := hp_own h ha (i := 1) (by omega)
      obtain ⟨r, r1, r2, r3, r4⟩ := hp_noMark (hB (at_ + 1) (by omega)) S
      refine ⟨r, r1, ?_, ?_, fun w => ⟨hl2, fun _ => r4 w, fun w => by omega⟩⟩
      · refine (show _ = hs_b2 (f_X3_own p (1 : Int32) S) (fun r_10 S_8 => hs_b2 (f_X3_isNoMark r_10 S_8) (fun r_13 S_11 => hs_bg r_13 (some (r_13, S_11)))) from rfl).trans ?_
        rw [o1, hp_b2, r2, hp_b2, hp_bg r1]
      · refine (show _ = hs_l (nI at_ + (1 : Int32)) (fun x_7 => hs_ix x_7 (hs_N 127) ((if ((M 127 x_7.toNatClampNeg) &&& (127 : Int32)) = 0 then f_X7_broken_68 (0 : Int32) M else f_X7_broken_68 (1 : Int32) M))) from rfl).trans ?_
        rw [hp_l, nI_1, x1, hp_ix (show at_ + 1 < 20 by omega), nI_clamp (by omega), (mo 1 (by omega)).2]
        rcases r1 with rfl | rfl
        · rw [if_pos (r3.mp rfl)]; rfl
        · rw [if_neg (fun w => absurd (r3.mpr w) (by decide))]; rfl
    · have hl3 : l = at_ + 16 := hl2
      have o3 : f_X3_own p 3 S = some (b (at_ + 3), S) := hp_own h ha (i := 3) (by omega)
      have o6 : f_X3_own p 6 S = some (b (at_ + 6), S) := hp_own h ha (i := 6) (by omega)
      obtain ⟨r, r1, r2, r3, r4⟩ := hp_noMark (hB (at_ + 6) (by omega)) S
      have e6 : nI at_ + (6 : Int32) = nI (at_ + 6) := nI_add at_ 6
      have e3 : nI at_ + (3 : Int32) = nI (at_ + 3) := nI_add at_ 3
      have hM : f_X7_broken_0 (nI 4) (nI at_) M = f_X7_broken_0 (nI 4) (nI at_) M := rfl
      by_cases c3 : (127 : Int32) < b (at_ + 3)
      · have c3' : ¬ b (at_ + 3) ≤ 127 := fun w => by
          rw [Int32.le_iff_toInt_le] at w
          rw [Int32.lt_iff_toInt_lt] at c3
          omega
        refine ⟨1, Or.inr rfl, ?_, ?_, fun w => absurd w (by decide)⟩
        · refine (show _ = hs_b2 (f_X3_own p (3 : Int32) S) (fun r_17 S_15 => (if (127 : Int32) < r_17 then f_X3_isMisshapen_99 S_15 else hs_b2 (f_X3_own p (6 : Int32) S_15) (fun r_20 S_18 => hs_b2 (f_X3_isNoMark r_20 S_18) (fun r_23 S_21 => (if r_23 = 0 then f_X3_isMisshapen_104 (0 : Int32) S_21 else f_X3_isMisshapen_99 S_21))))) from rfl).trans ?_
          rw [o3, hp_b2, if_pos c3]
          rfl
        · refine (show _ = hs_l (nI at_ + (6 : Int32)) (fun x_4 => hs_ix x_4 (hs_N 127) ((if ((M 127 x_4.toNatClampNeg) &&& (127 : Int32)) = 0 then hs_l (nI at_ + (3 : Int32)) (fun x_5 => hs_ix x_5 (hs_N 127) ((if (M 127 x_5.toNatClampNeg) ≤ (127 : Int32) then f_X7_broken_106 M else f_X7_broken_102 M))) else f_X7_broken_102 M))) from rfl).trans ?_
          rw [hp_l, hp_l, e6, e3, x1, hp_ix (show at_ + 6 < 20 by omega), hp_ix (show at_ + 3 < 20 by omega), nI_clamp (by omega), nI_clamp (by omega), (mo 6 (by omega)).2, (mo 3 (by omega)).2, if_neg c3', ite_self]
          rfl
      · have c3' : b (at_ + 3) ≤ 127 := by
          rw [Int32.le_iff_toInt_le]
          rw [Int32.lt_iff_toInt_lt] at c3
          omega
        refine ⟨r, r1, ?_, ?_, fun w => ⟨hl2, fun w => by omega, fun _ => r4 w⟩⟩
        · refine (show _ = hs_b2 (f_X3_own p (3 : Int32) S) (fun r_17 S_15 => (if (127 : Int32) < r_17 then f_X3_isMisshapen_99 S_15 else hs_b2 (f_X3_own p (6 : Int32) S_15) (fun r_20 S_18 => hs_b2 (f_X3_isNoMark r_20 S_18) (fun r_23 S_21 => (if r_23 = 0 then f_X3_isMisshapen_104 (0 : Int32) S_21 else f_X3_isMisshapen_99 S_21))))) from rfl).trans ?_
          rw [o3, hp_b2, if_neg c3, o6, hp_b2, r2, hp_b2]
          rcases r1 with rfl | rfl
          · rfl
          · rfl
        · refine (show _ = hs_l (nI at_ + (6 : Int32)) (fun x_4 => hs_ix x_4 (hs_N 127) ((if ((M 127 x_4.toNatClampNeg) &&& (127 : Int32)) = 0 then hs_l (nI at_ + (3 : Int32)) (fun x_5 => hs_ix x_5 (hs_N 127) ((if (M 127 x_5.toNatClampNeg) ≤ (127 : Int32) then f_X7_broken_106 M else f_X7_broken_102 M))) else f_X7_broken_102 M))) from rfl).trans ?_
          rw [hp_l, hp_l, e6, e3, x1, hp_ix (show at_ + 6 < 20 by omega), hp_ix (show at_ + 3 < 20 by omega), nI_clamp (by omega), nI_clamp (by omega), (mo 6 (by omega)).2, (mo 3 (by omega)).2, if_pos c3']
          rcases r1 with rfl | rfl
          · rw [if_pos (r3.mp rfl)]; rfl
          · rw [if_neg (fun w => absurd (r3.mpr w) (by decide))]; rfl
  · have hne : ¬ nI (l - at_) = nI (hp_sz kd) := fun w => hsz ((nI_eq (by omega) (by omega)).mp w)
    rw [if_neg hne, if_neg hne]
    exact ⟨1, Or.inr rfl, rfl, rfl, fun w => absurd w (by decide)⟩
/-- where a packet's own bytes begin, and its flow -/
theorem hp_begin {x : Int32} (hx : hp_in x 256) : ∃ at_ f, at_ ≤ 1 ∧ f < 4 ∧ ((at_ = 0 ∧ f = 0 ∧ (x ≤ 224 ∨ (¬ x ≤ 224 ∧ (228 : Int32) ≤ x))) ∨ (at_ = 1 ∧ ¬ x ≤ 224 ∧ ¬ (228 : Int32) ≤ x ∧ x - 224 = nI f)) := by
  obtain ⟨j, hj, rfl⟩ := hx
  by_cases c1 : j ≤ 224
  · exact ⟨0, 0, by decide, by decide, Or.inl ⟨rfl, rfl, Or.inl (nI_le (b := 224) c1 (by decide))⟩⟩
  · have c1' : ¬ nI j ≤ 224 := nI_ge (a := 224) (by omega) (by omega)
    by_cases c2 : 228 ≤ j
    · exact ⟨0, 0, by decide, by decide, Or.inl ⟨rfl, rfl, Or.inr ⟨c1', nI_le (a := 228) c2 (by omega)⟩⟩⟩
    · exact ⟨1, j - 224, by decide, by omega, Or.inr ⟨rfl, c1', nI_ge (b := 228) (by omega) (by decide), pk_sub (b := 224) (by omega)⟩⟩
