/-! ===== reading, and heads that are tried ===== -/
def hp_tl (S_1 : hs_M) : Option (Int32 × hs_M) := hs_ix (0 : Int32) (hs_N 127) ((if (S_1 127 (0 : Int32).toNatClampNeg) ≤ (224 : Int32) then f_X7_deliver_102 S_1 else hs_ix (0 : Int32) (hs_N 127) ((if (228 : Int32) ≤ (S_1 127 (0 : Int32).toNatClampNeg) then f_X7_deliver_102 S_1 else f_X7_deliver_103 (1 : Int32) S_1))))
theorem hp_readE {p l at_ f : Nat} {b : Nat → Int32} {C M : hs_M} (h : hp_PK p l b C) (hm : hp_MK l b M) (l1 : 1 ≤ l) (hcase : (at_ = 0 ∧ f = 0 ∧ (b 0 ≤ 224 ∨ (¬ b 0 ≤ 224 ∧ (228 : Int32) ≤ b 0))) ∨ (at_ = 1 ∧ ¬ b 0 ≤ 224 ∧ ¬ (228 : Int32) ≤ b 0 ∧ b 0 - 224 = nI f)) : f_X3_read p C = f_X3_read_62 p p (nI at_) (hs_U C p 2 (nI f)) ∧ hp_tl M = f_X7_deliver_123 (nI at_) (nI f) M := by
  have hp := h.1
  have hl := h.2.1
  have hb0 : C (p + 9) 0 = b 0 := h.2.2.2 0 (by omega)
  have mb0 : M 127 0 = b 0 := hm.2 0 (by omega)
  have x1 : hs_N 127 = 20 := rfl
  have z0 : (0 : Int32).toNatClampNeg = 0 := rfl
  have y17 : ∀ G : Option hs_M, hs_ix (0 : Int32) 17 G = G := fun G => hp_ix (c := 0) (by decide)
  have y20 : ∀ G : Option (Int32 × hs_M), hs_ix (0 : Int32) 20 G = G := fun G => hp_ix (c := 0) (by decide)
  constructor
  · unfold f_X3_read f_X3_read_0 f_X3_read_28 f_X3_read_29 f_X3_read_49
    rw [hp_N17 hp, z0, hb0, y17, y17]
    rcases hcase with ⟨rfl, rfl, c | ⟨c1, c2⟩⟩ | ⟨rfl, c1, c2, c3⟩
    · rw [if_pos c, if_pos rfl, hp_l, if_pos rfl]
      rfl
    · rw [if_neg c1, if_pos c2, if_pos rfl, hp_l, if_pos rfl]
      rfl
    · rw [if_neg c1, if_neg c2, c3, if_neg (by decide), y17, hp_l, if_neg (by decide)]
      rfl
  · unfold hp_tl f_X7_deliver_102 f_X7_deliver_103
    rw [x1, z0, mb0, y20, y20]
    rcases hcase with ⟨rfl, rfl, c | ⟨c1, c2⟩⟩ | ⟨rfl, c1, c2, c3⟩
    · rw [if_pos c, if_neg (by decide)]
      rfl
    · rw [if_neg c1, if_pos c2, if_neg (by decide)]
      rfl
    · rw [if_neg c1, if_neg c2, if_pos rfl, y20, c3]
      rfl
theorem hp_readB {p l : Nat} {b : Nat → Int32} {C M : hs_M} (h : hp_PK p l b C) (hm : hp_MK l b M) (l1 : 1 ≤ l) (hB : ∀ i, i < l → hp_in (b i) 256) : ∃ (at_ f : Nat) (kv : Int32) (C' : hs_M), f < 4 ∧ f_X3_read p C = some C' ∧ (∀ i, i ≠ p → C' i = C i) ∧ (∀ j, j ≠ 2 → j ≠ 3 → j ≠ 4 → C' p j = C p j) ∧ C' p 2 = nI f ∧ C' p 4 = nI at_ ∧ hp_tl M = f_X7_deliver_146 (nI at_) (nI f) kv M ∧ ((C' p 3 = -1 ∧ f_X7_broken kv (nI at_) M = some (1, M)) ∨ (∃ kd, kd ≤ 4 ∧ kv = nI kd ∧ C' p 3 = nI kd ∧ f_X7_broken (nI kd) (nI at_) M = some (0, M) ∧ l = at_ + hp_sz kd ∧ (kd = 3 → b (at_ + 1) = 0 ∨ b (at_ + 1) = 128) ∧ (kd = 4 → b (at_ + 6) = 0 ∨ b (at_ + 6) = 128))) := by
  obtain ⟨at_, f, ha1, hf, hcase⟩ := hp_begin (hB 0 (by omega))
  have hp := h.1
  have hl := h.2.1
  have hb0 : C (p + 9) 0 = b 0 := h.2.2.2 0 (by omega)
  have mb0 : M 127 0 = b 0 := hm.2 0 (by omega)
  have x1 : hs_N 127 = 20 := rfl
  have z0 : (0 : Int32).toNatClampNeg = 0 := rfl
  obtain ⟨e1, e2⟩ := hp_readE h hm l1 hcase
  have hS3o : ∀ i, i ≠ p → hs_U (hs_U C p 2 (nI f)) p 4 (nI at_) i = C i := fun i hi => by funext j; (repeat (first | rw [hp_U1] | rw [hp_U2 (by omega)] | rw [hp_U3 (by omega)]))
  have s31 : hs_U (hs_U C p 2 (nI f)) p 4 (nI at_) p 1 = nI l := by (repeat (first | rw [hp_U1] | rw [hp_U2 (by omega)] | rw [hp_U3 (by omega)])); exact h.2.2.1
  have s34 : hs_U (hs_U C p 2 (nI f)) p 4 (nI at_) p 4 = nI at_ := by (repeat (first | rw [hp_U1] | rw [hp_U2 (by omega)] | rw [hp_U3 (by omega)]))
  have s32 : hs_U (hs_U C p 2 (nI f)) p 4 (nI at_) p 2 = nI f := by (repeat (first | rw [hp_U1] | rw [hp_U2 (by omega)] | rw [hp_U3 (by omega)]))
  have s3j : ∀ j, j ≠ 2 → j ≠ 3 → j ≠ 4 → hs_U (hs_U C p 2 (nI f)) p 4 (nI at_) p j = C p j := fun j j1 j2 j3 => by (repeat (first | rw [hp_U1] | rw [hp_U2 (by omega)] | rw [hp_U3 (by omega)]))
  have e3 : f_X3_read_62 p p (nI at_) (hs_U C p 2 (nI f)) = hs_l (hs_U (hs_U C p 2 (nI f)) p 4 (nI at_)) (fun S_1 => (if (S_1 p 1) ≤ (S_1 p 4) then f_X3_read_93 p p (-1 : Int32) S_1 else hs_l (S_1 p 4) (fun x_2 => hs_ix x_2 (hs_N (p + 9)) (hs_b2 (f_X3_kindTold (S_1 (p + 9) x_2.toNatClampNeg) S_1) (fun r_5 S_3 => f_X3_read_93 p p r_5 S_3))))) := rfl
  rw [e1, e2, e3, hp_l, s31, s34]
  generalize hs_U (hs_U C p 2 (nI f)) p 4 (nI at_) = S3 at hS3o s31 s34 s32 s3j
  unfold f_X7_deliver_123
  rw [hm.1]
  by_cases hal : l ≤ at_
  · rw [if_pos (nI_le hal (by omega)), if_pos (nI_le hal (by omega))]
    refine ⟨at_, f, -1, hs_U S3 p 3 (-1), hf, ?_, fun i hi => ?_, fun j j1 j2 j3 => ?_, ?_, ?_, rfl, Or.inl ⟨hp_U1, rfl⟩⟩
    · unfold f_X3_read_93 f_X3_read_116
      rw [hp_l, hp_U1, if_pos rfl]
    · rw [← hS3o i hi]
      funext j
      exact hp_U2 hi
    · rw [hp_U3 j2, s3j j j1 j2 j3]
    · rw [hp_U3 (by decide), s32]
    · rw [hp_U3 (by decide), s34]
  · rw [if_neg (nI_ge (by omega) (by omega)), if_neg (nI_ge (by omega) (by omega)), hp_l, hp_N17 hp, x1, hp_ix (show at_ < 17 by omega), hp_ix (show at_ < 20 by omega), nI_clamp (by omega), hS3o (p + 9) (by omega), h.2.2.2 at_ (by omega), hm.2 at_ (by omega), (hp_kdC (b at_) S3).1, (hp_kdC (b at_) M).2.1, hp_b2, hp_b2]
    have h4 : ∀ y, (∀ i, i ≠ p → hs_U S3 p 3 y i = C i) ∧ (∀ j, j ≠ 2 → j ≠ 3 → j ≠ 4 → hs_U S3 p 3 y p j = C p j) ∧ hs_U S3 p 3 y p 2 = nI f ∧ hs_U S3 p 3 y p 4 = nI at_ := by
      intro y
      refine ⟨fun i hi => ?_, fun j j1 j2 j3 => ?_, ?_, ?_⟩
      · rw [← hS3o i hi]
        funext j
        exact hp_U2 hi
      · rw [hp_U3 j2, s3j j j1 j2 j3]
      · rw [hp_U3 (by decide), s32]
      · rw [hp_U3 (by decide), s34]
    rcases (hp_kdC (b at_) S3).2.2 with hkd | ⟨kd, hk4, hkd⟩
    · rw [hkd]
      refine ⟨at_, f, -1, hs_U S3 p 3 (-1), hf, ?_, (h4 (-1)).1, (h4 (-1)).2.1, (h4 (-1)).2.2.1, (h4 (-1)).2.2.2, rfl, Or.inl ⟨hp_U1, rfl⟩⟩
      unfold f_X3_read_93 f_X3_read_116
      rw [hp_l, hp_U1, if_pos rfl]
    · rw [hkd]
      obtain ⟨q1, q2, q3, q4⟩ := h4 (nI kd)
      have hPK4 : hp_PK p l b (hs_U S3 p 3 (nI kd)) := ⟨hp, hl, by rw [q2 1 (by decide) (by decide) (by decide)]; exact h.2.2.1, fun i hi => by rw [q1 (p + 9) (by omega)]; exact h.2.2.2 i hi⟩
      obtain ⟨r, r1, r2, r3, r4⟩ := hp_shape hPK4 q4 hp_U1 hk4 hm (by omega) hB
      have e93 : f_X3_read_93 p p (nI kd) S3 = if r = 0 then some (hs_U S3 p 3 (nI kd)) else some (hs_U S3 p 3 (-1)) := by
        unfold f_X3_read_93 f_X3_read_116
        have hne : ¬ nI kd = (-1 : Int32) := fun w => by
          have := nI_pos (n := kd) (by omega)
          rw [w] at this
          exact this (by decide)
        rw [hp_l, hp_U1, if_neg hne, r2, hp_b2]
        by_cases c : r = 0
        · rw [if_pos c, if_pos c]
        · rw [if_neg c, if_neg c, hp_l]
          congr 1
          funext i j
          by_cases hi : i = p ∧ j = 3
          · obtain ⟨rfl, rfl⟩ := hi
            rw [hp_U1, hp_U1]
          · unfold hs_U
            rw [if_neg hi, if_neg hi, if_neg hi]
      rw [e93]
      rcases r1 with rfl | rfl
      · rw [if_pos rfl]
        obtain ⟨o1, o2, o3⟩ := r4 rfl
        exact ⟨at_, f, nI kd, _, hf, rfl, q1, q2, q3, q4, rfl, Or.inr ⟨kd, hk4, rfl, hp_U1, r3, o1, o2, o3⟩⟩
      · rw [if_neg (by decide)]
        exact ⟨at_, f, nI kd, _, hf, rfl, (h4 (-1)).1, (h4 (-1)).2.1, (h4 (-1)).2.2.1, (h4 (-1)).2.2.2, rfl, Or.inl ⟨hp_U1, r3⟩⟩
/-! a head that is tried -/
def hp_hd (a t m n ti id : Int32) (k : Nat) : Int32 := if k = 0 then a else if k = 1 then t else if k = 2 then m else if k = 3 then n else if k = 4 then ti else id
def hp_H (pt : Nat) (S : hs_M) (a t m n ti id : Int32) : hs_M := fun i k => if i = pt ∧ k < 6 then hp_hd a t m n ti id k else S i k
theorem hp_H_o {pt i : Nat} {S : hs_M} {a t m n ti id : Int32} (h : i ≠ pt) : hp_H pt S a t m n ti id i = S i := by
  funext k
  exact if_neg (fun q => h q.1)
theorem hp_H_i {pt : Nat} {S : hs_M} {a t m n ti id : Int32} {k : Nat} (h : k < 6) : hp_H pt S a t m n ti id pt k = hp_hd a t m n ti id k := if_pos ⟨rfl, h⟩
theorem hp_H_H {pt : Nat} {S : hs_M} {a t m n ti id a' t' m' n' ti' id' : Int32} : hp_H pt (hp_H pt S a t m n ti id) a' t' m' n' ti' id' = hp_H pt S a' t' m' n' ti' id' := by
  funext i k
  unfold hp_H
  by_cases h : i = pt ∧ k < 6
  · rw [if_pos h, if_pos h]
  · rw [if_neg h, if_neg h, if_neg h]
theorem hp_F_F {S : hs_M} {a t m n ti id a' t' m' n' ti' id' : Int32} : hp_F (hp_F S a t m n ti id) a' t' m' n' ti' id' = hp_F S a' t' m' n' ti' id' := by
  funext i k
  unfold hp_F
  by_cases h : i = 126 ∧ k < 11
  · rw [if_pos h, if_pos h]
  · rw [if_neg h, if_neg h, if_neg h]
theorem hp_F_o {i : Nat} {S : hs_M} {a t m n ti id : Int32} (h : i ≠ 126) : hp_F S a t m n ti id i = S i := by
  funext k
  exact if_neg (fun q => h q.1)
theorem hp_F_i {S : hs_M} {a t m n ti id : Int32} {k : Nat} (h : k < 11) : hp_F S a t m n ti id 126 k = hp_fill a t m n ti id k := if_pos ⟨rfl, h⟩
theorem hp_hdE {pt : Nat} {S : hs_M} {a t m n ti id : Int32} (h0 : S pt 0 = a) (h1 : S pt 1 = t) (h2 : S pt 2 = m) (h3 : S pt 3 = n) (h4 : S pt 4 = ti) (h5 : S pt 5 = id) : hp_H pt S a t m n ti id = S := by
  funext i k
  unfold hp_H
  by_cases h : i = pt ∧ k < 6
  · rw [if_pos h]
    obtain ⟨rfl, hk⟩ := h
    rcases (show k = 0 ∨ k = 1 ∨ k = 2 ∨ k = 3 ∨ k = 4 ∨ k = 5 by omega) with rfl | rfl | rfl | rfl | rfl | rfl
    · exact h0.symm
    · exact h1.symm
    · exact h2.symm
    · exact h3.symm
    · exact h4.symm
    · exact h5.symm
  · rw [if_neg h]
theorem hp_hdM {pt : Nat} {S S' : hs_M} {a t m n ti id : Int32} (h0 : S' pt 0 = a) (h1 : S' pt 1 = t) (h2 : S' pt 2 = m) (h3 : S' pt 3 = n) (h4 : S' pt 4 = ti) (h5 : S' pt 5 = id) (ho : ∀ i k, (i ≠ pt ∨ 6 ≤ k) → S' i k = S i k) : S' = hp_H pt S a t m n ti id := by
  rw [← hp_hdE h0 h1 h2 h3 h4 h5]
  funext i k
  unfold hp_H
  by_cases h : i = pt ∧ k < 6
  · rw [if_pos h, if_pos h]
  · rw [if_neg h, if_neg h]
    exact ho i k (by omega)
theorem hp_su_congr {h g : Nat → Int32} {st k : Nat} {s : Int32} (hk : k < 4) (e : ∀ i, i < 11 → hp_part h i = g i) : hp_su h s k = hp_sm (hp_kp k) g 11 (hp_ks k) 0 := by
  unfold hp_su hp_kn
  rw [if_neg (by omega)]
  refine hp_sm_congr 11 _ 0 (fun j _ hj => ?_)
  unfold hp_pst
  rw [if_neg (by omega), if_neg (by omega)]
  exact e j (by omega)
/-! what a small packet tells -/
def hp_mk (kd : Nat) (b : Nat → Int32) (a : Nat) : Int32 := if kd = 0 then 0 else if kd = 1 then (if b (a + 1) < 128 then 0 else 1) else (if b (a + 1) &&& 4 = 0 then 0 else 1)
def hp_lw (kd : Nat) (b : Nat → Int32) (a : Nat) : Int32 := if kd = 0 then hs_ushr (b a) 3 else if kd = 1 then b a &&& 63 else (b a &&& 31) * 32 + hs_ushr (b (a + 1)) 3
theorem hp_mk_01 (kd : Nat) (b : Nat → Int32) (a : Nat) : hp_mk kd b a = 0 ∨ hp_mk kd b a = 1 := by
  unfold hp_mk
  by_cases c0 : kd = 0
  · rw [if_pos c0]; exact Or.inl rfl
  · rw [if_neg c0]
    by_cases c1 : kd = 1
    · rw [if_pos c1]
      by_cases c : b (a + 1) < 128
      · rw [if_pos c]; exact Or.inl rfl
      · rw [if_neg c]; exact Or.inr rfl
    · rw [if_neg c1]
      by_cases c : b (a + 1) &&& 4 = 0
      · rw [if_pos c]; exact Or.inl rfl
      · rw [if_neg c]; exact Or.inr rfl
theorem hp_told {p l at_ kd : Nat} {b : Nat → Int32} {S : hs_M} (h : hp_PK p l b S) (ha : S p 4 = nI at_) (hk3 : S p 3 = nI kd) (hk : kd < 3) (hl2 : l = at_ + hp_sz kd) : f_X3_markTold p S = some (hp_mk kd b at_, S) ∧ f_X3_lowTold p S = some (hp_lw kd b at_, S) := by
  have o0 : at_ < l → f_X3_own p 0 S = some (b at_, S) := fun hl => hp_own h ha (i := 0) (by omega)
  have o1 : at_ + 1 < l → f_X3_own p 1 S = some (b (at_ + 1), S) := fun hl => hp_own h ha (i := 1) (by omega)
  unfold f_X3_markTold f_X3_markTold_0 f_X3_markTold_50 f_X3_markTold_66 f_X3_lowTold f_X3_lowTold_0
  rw [hk3, hp_l, hp_l]
  simp only [hp_bg0, hp_bg1]
  rcases (show kd = 0 ∨ kd = 1 ∨ kd = 2 by omega) with rfl | rfl | rfl
  · have hl3 : l = at_ + 1 := hl2
    rw [o0 (by omega)]
    exact ⟨rfl, rfl⟩
  · have hl3 : l = at_ + 2 := hl2
    rw [o0 (by omega), o1 (by omega)]
    refine ⟨?_, rfl⟩
    refine (show _ = (if b (at_ + 1) < (128 : Int32) then some ((0 : Int32), S) else some ((1 : Int32), S)) from rfl).trans ?_
    show _ = some ((if b (at_ + 1) < 128 then 0 else 1), S)
    by_cases c : b (at_ + 1) < 128
    · rw [if_pos c, if_pos c]
    · rw [if_neg c, if_neg c]
  · have hl3 : l = at_ + 3 := hl2
    rw [o0 (by omega), o1 (by omega)]
    refine ⟨?_, ?_⟩
    · refine (show _ = (if (b (at_ + 1) &&& (4 : Int32)) = 0 then some ((0 : Int32), S) else some ((1 : Int32), S)) from rfl).trans ?_
      show _ = some ((if b (at_ + 1) &&& 4 = 0 then 0 else 1), S)
      by_cases c : b (at_ + 1) &&& 4 = 0
      · rw [if_pos c, if_pos c]
      · rw [if_neg c, if_neg c]
    · refine (show _ = hs_b2 (f_X3_own p (1 : Int32) S) (fun r_15 S_13 => some ((((b at_ &&& (31 : Int32)) * (32 : Int32)) + (hs_ushr r_15 (3 : Int32))), S_13)) from rfl).trans ?_
      rw [o1 (by omega)]
      rfl
theorem hp_sumT {p l kd : Nat} {b : Nat → Int32} {S : hs_M} (h : hp_PK p l b S) (hk3 : S p 3 = nI kd) (hk : kd ≤ 4) (l1 : 1 ≤ l) : f_X3_sumTold p S = some (b (l - 1) &&& hp_ks kd, S) := by
  have hl := h.2.1
  have hp := h.1
  unfold f_X3_sumTold f_X3_sumTold_0
  have e : ∀ k, k ≤ 4 → hs_sv 1 k = hp_ks k := by decide +kernel
  rw [h.2.2.1, show nI l - 1 = nI (l - 1) from pk_sub (b := 1) l1, hp_l, hp_N17 hp, hp_ix (show l - 1 < 17 by omega), hk3, hp_l, hp_ix (show kd < hs_sn 1 by show kd < 5; omega), nI_clamp (by omega), nI_clamp (by omega), h.2.2.2 (l - 1) (by omega), e kd hk]
