/-! ===== a great packet, both sides ===== -/
/-- the reference's head row with the stride behind it -/
def hp_FS (M : hs_M) (a t m n ti id st : Int32) : hs_M := hs_U (hs_U (hp_F M a t m n ti id) 126 11 (st / 256)) 126 12 (hs_rem st 256)
theorem hp_FS_o {M : hs_M} {a t m n ti id st : Int32} {i : Nat} (h : i ≠ 126) : hp_FS M a t m n ti id st i = M i := by
  unfold hp_FS
  funext j
  rw [hp_U2 h, hp_U2 h, hp_F_o h]
theorem hp_FS_i {M : hs_M} {a t m n ti id st : Int32} {i : Nat} (h : i < 11) : hp_FS M a t m n ti id st 126 i = hp_fill a t m n ti id i := by
  unfold hp_FS
  rw [hp_U3 (by omega), hp_U3 (by omega), hp_F_i h]
/-- the reference keeps a context, and the head -/
def hp_CX (f : Nat) (S : hs_M) (a t st ph of : Int32) : hs_M := hs_U (hs_U (hs_U (hs_U (hs_U S 116 f a) 117 f t) 118 f st) 119 f ph) 120 f of
theorem hp_m202 {f l o9 : Nat} {b : Nat → Int32} {S : hs_M} (hf : f < 4) (hm : S 127 (o9 + 9) = b (o9 + 9)) (ho : o9 + 9 < 20) (a t st n ti id : Int32) (N : Nat) (hN : N ≤ 13) (su : Int32) (hsu : hp_sm 224 (S 126) N 255 0 = su) : f_X7_comeWhole_202 (nI f) a t st (nI o9) n ti id 8 (nI N) S = if su = b (o9 + 9) then hs_b1 (f_X7_keep (nI f) n (hp_CX f S a t st (ti - n * st) ((id - n) &&& 65535))) (fun S_10 => some (1, hs_U S_10 115 f 2)) else some (0, S) := by
  have e9 : nI o9 + (9 : Int32) = nI (o9 + 9) := nI_add o9 9
  have x1 : hs_N 127 = 20 := rfl
  unfold f_X7_comeWhole_202
  rw [hp_mS8 S hN, hp_b2, hsu, e9, hp_l, x1, hp_ix ho, nI_clamp (show o9 + 9 < 2 ^ 31 by omega), hm, hp_ix (show f < hs_N 116 from hf), hp_l, hp_ix (show f < hs_N 117 from hf), hp_l, hp_ix (show f < hs_N 118 from hf), hp_l, hp_ix (show f < hs_N 119 from hf), hp_l, hp_ix (show f < hs_N 120 from hf), hp_l, nI_clamp (show f < 2 ^ 31 by omega), hp_bg0]
  by_cases c : su = b (o9 + 9)
  · rw [if_pos c, if_pos c]
    unfold hp_CX
    congr 1
    funext S_10
    rw [hp_ix (show f < hs_N 115 from hf), hp_l, hp_bg1]
  · rw [if_neg c, if_neg c]
theorem hp_m152 {f kd l o9 : Nat} {b : Nat → Int32} {M : hs_M} (hf : f < 4) (hkd : kd = 3 ∨ kd = 4) (hm : M 127 (o9 + 9) = b (o9 + 9)) (ho : o9 + 9 < 20) (a t st n ti id mk : Int32) (ra : hp_in a 65536) (rn : hp_in n 65536) (ri : hp_in id 65536) (rs : kd = 4 → hp_in st 65536) : f_X7_comeWhole_152 (nI f) (nI kd) a t st (nI o9) n ti id a t mk M = if hp_su (hp_hd a t mk n ti id) st kd = b (o9 + 9) then hs_b1 (f_X7_keep (nI f) n (hp_CX f (hp_FS M a t mk n ti id st) a t st (ti - n * st) ((id - n) &&& 65535))) (fun S_10 => some (1, hs_U S_10 115 f 2)) else some (0, hp_FS M a t mk n ti id st) := by
  have x1 : hs_N 126 = 13 := rfl
  have y11 : ∀ G : Option (Int32 × hs_M), hs_ix (11 : Int32) 13 G = G := fun G => hp_ix (c := 11) (by decide)
  have y12 : ∀ G : Option (Int32 × hs_M), hs_ix (12 : Int32) 13 G = G := fun G => hp_ix (c := 12) (by decide)
  have t11 : (11 : Int32).toNatClampNeg = 11 := rfl
  have t12 : (12 : Int32).toNatClampNeg = 12 := rfl
  have hhp : ∀ i, i < 11 → hp_part (hp_hd a t mk n ti id) i = hp_fill a t mk n ti id i := fun i hi => hp_parts (h := hp_hd a t mk n ti id) (na := 65536) (nn := 65536) (ni := 65536) ra rn ri (by decide) (by decide) (by decide) hi
  have hF : hp_FS M a t mk n ti id st 127 (o9 + 9) = b (o9 + 9) := by rw [hp_FS_o (by decide)]; exact hm
  unfold f_X7_comeWhole_152
  rw [hp_mFill, hp_b1, x1, y11, hp_l, y12, hp_l, t11, t12]
  rcases hkd with rfl | rfl
  · rw [if_neg (by decide)]
    have hsu : hp_sm 224 (hp_FS M a t mk n ti id st 126) 11 255 0 = hp_su (hp_hd a t mk n ti id) st 3 := by
      refine hp_sm_congr 11 _ 0 (fun j _ hj => ?_)
      rw [hp_FS_i (by omega), ← hhp j (by omega)]
      unfold hp_pst
      rw [if_neg (by omega), if_neg (by omega)]
    exact hp_m202 (l := l) hf hF ho a t st n ti id 11 (by decide) _ hsu
  · rw [if_pos (by rfl)]
    have hsu : hp_sm 224 (hp_FS M a t mk n ti id st 126) 13 255 0 = hp_su (hp_hd a t mk n ti id) st 4 := by
      have hs8 := hp_hi8 (rs rfl) (by decide)
      refine hp_sm_congr 13 _ 0 (fun j _ hj => ?_)
      unfold hp_pst
      by_cases j11 : j = 11
      · subst j11
        rw [if_pos rfl, hs8.1]
        unfold hp_FS
        (repeat (first | rw [hp_U1] | rw [hp_U2 (by omega)] | rw [hp_U3 (by omega)]))
      · rw [if_neg j11]
        by_cases j12 : j = 12
        · subst j12
          rw [if_pos rfl, hs8.2]
          unfold hp_FS
          (repeat (first | rw [hp_U1] | rw [hp_U2 (by omega)] | rw [hp_U3 (by omega)]))
        · rw [if_neg j12, hp_FS_i (by omega), ← hhp j (by omega)]
    exact hp_m202 (l := l) hf hF ho a t st n ti id 13 (by decide) _ hsu
/-- the class's makeMoving, from the packet's moving part on -/
theorem hp_c51 {f kd p pt l at_ o : Nat} {b : Nat → Int32} {S : hs_M} (hf : f < 4) (hpt : pt = 2 ∨ pt = 3) (hPK : hp_PK p l b S) (ha : S p 4 = nI at_) (hk3 : S p 3 = nI kd) (hkd : (kd = 3 ∧ o = 1) ∨ (kd = 4 ∧ o = 6)) (hl2 : l = at_ + o + 10) (hB : hp_in (b (at_ + o + 9)) 256) (a t st : Int32) (S0 : hs_M) (hS : ∀ i, i ≠ pt → S i = S0 i) (hS6 : ∀ k, 6 ≤ k → S pt k = S0 pt k) (s0 : S pt 0 = a) (s1 : S pt 1 = t) (mk n ti id : Int32) (emk : mk = if b (at_ + o) = 0 then 0 else 1) (en : n = hp_tw b (at_ + (o + 1))) (eti : ti = hp_tw b (at_ + (o + 3)) * 65536 + hp_tw b (at_ + (o + 5))) (eid : id = hp_tw b (at_ + (o + 7))) : f_X4_makeMoving_51 (38 + f) p pt st S = if hp_su (hp_hd a t mk n ti id) st kd = b (at_ + o + 9) then some (1, hs_U (hs_U (hs_U (hs_U (hs_U (hp_H pt S0 a t mk n ti id) (42 + f) 0 a) (42 + f) 1 t) (42 + f) 2 st) (42 + f) 3 (ti - n * st)) (42 + f) 4 ((id - n) &&& 65535)) else some (0, hp_H pt S0 a t mk n ti id) := by
  have hp := hPK.1
  have hk4 : kd ≤ 4 := by omega
  have eH : hs_U (hs_U (hs_U (hs_U S pt 2 mk) pt 3 n) pt 4 ti) pt 5 id = hp_H pt S0 a t mk n ti id := by
    refine hp_hdM ?_ ?_ ?_ ?_ ?_ ?_ (fun i k hik => ?_)
    · (repeat (first | rw [hp_U1] | rw [hp_U2 (by omega)] | rw [hp_U3 (by omega)])); exact s0
    · (repeat (first | rw [hp_U1] | rw [hp_U2 (by omega)] | rw [hp_U3 (by omega)])); exact s1
    · (repeat (first | rw [hp_U1] | rw [hp_U2 (by omega)] | rw [hp_U3 (by omega)]))
    · (repeat (first | rw [hp_U1] | rw [hp_U2 (by omega)] | rw [hp_U3 (by omega)]))
    · (repeat (first | rw [hp_U1] | rw [hp_U2 (by omega)] | rw [hp_U3 (by omega)]))
    · (repeat (first | rw [hp_U1] | rw [hp_U2 (by omega)] | rw [hp_U3 (by omega)]))
    · by_cases hi : i = pt
      · have hk6 : 6 ≤ k := by omega
        rw [hi]
        (repeat (first | rw [hp_U1] | rw [hp_U2 (by omega)] | rw [hp_U3 (by omega)]))
        exact hS6 k hk6
      · (repeat (first | rw [hp_U1] | rw [hp_U2 (by omega)] | rw [hp_U3 (by omega)]))
        rw [hS i hi]
  have hmv := hp_cMv hpt hPK ha hk3 hkd hl2
  rw [← emk, ← en, ← eti, ← eid, eH] at hmv
  have f1 : hp_H pt S0 a t mk n ti id p = S p := (hp_H_o (by omega)).trans (hS p (by omega)).symm
  have f9 : hp_H pt S0 a t mk n ti id (p + 9) = S (p + 9) := (hp_H_o (by omega)).trans (hS (p + 9) (by omega)).symm
  have hPKH : hp_PK p l b (hp_H pt S0 a t mk n ti id) := hp_PK_o hPK (by rw [f1]) f9
  unfold f_X4_makeMoving_51
  rw [hmv, hp_b1, f1, hk3, hp_cSum pt hk4, hp_b2, hp_sumT hPKH (by rw [f1]; exact hk3) hk4 (by omega), hp_b2, hp_su_c (g := hp_hd a t mk n ti id) (fun k hk => hp_H_i hk), show l - 1 = at_ + o + 9 by omega]
  have ek : b (at_ + o + 9) &&& hp_ks kd = b (at_ + o + 9) := by
    have e255 : hp_ks kd = 255 := by
      unfold hp_ks
      rw [if_neg (by omega), if_neg (by omega)]
    rw [e255]
    exact (hp_bf hB).2.2.2.2.2.1
  rw [ek]
  by_cases c : hp_su (hp_hd a t mk n ti id) st kd = b (at_ + o + 9)
  · rw [if_pos c, if_pos c]
    unfold f_X0_follow f_X0_follow_0 f_X0_phaseOf f_X0_phaseOf_0 f_X0_offsetOf f_X0_offsetOf_0
    rw [show 38 + f + 4 = 42 + f by omega]
    have e1 : ∀ (S : hs_M) (k j : Nat) (x : Int32), hs_U S (42 + f) k x pt j = S pt j := fun S k j x => hp_U2 (by omega)
    have h0 : hp_H pt S0 a t mk n ti id pt 0 = a := hp_H_i (by decide)
    have h1 : hp_H pt S0 a t mk n ti id pt 1 = t := hp_H_i (by decide)
    have h3 : hp_H pt S0 a t mk n ti id pt 3 = n := hp_H_i (by decide)
    have h4 : hp_H pt S0 a t mk n ti id pt 4 = ti := hp_H_i (by decide)
    have h5 : hp_H pt S0 a t mk n ti id pt 5 = id := hp_H_i (by decide)
    simp only [hp_l, hp_b2, hp_b1, e1, h0, h1, h3, h4, h5]
  · rw [if_neg c, if_neg c]
/-- a great packet: the same head, the same verdict -/
theorem hp_wholeB {f kd p pt l at_ : Nat} {b : Nat → Int32} {S M : hs_M} (hf : f < 4) (hpt : pt = 2 ∨ pt = 3) (hPK : hp_PK p l b S) (ha : S p 4 = nI at_) (hk3 : S p 3 = nI kd) (hkd : kd = 3 ∨ kd = 4) (hl2 : l = at_ + hp_sz kd) (hm : hp_MK l b M) (hB : ∀ i, i < l → hp_in (b i) 256) (k3 : kd = 3 → b (at_ + 1) = 0 ∨ b (at_ + 1) = 128) (k4 : kd = 4 → b (at_ + 6) = 0 ∨ b (at_ + 6) = 128) (x0 : S (42 + f) 0 = M 116 f) (x1 : S (42 + f) 1 = M 117 f) (x2 : S (42 + f) 2 = M 118 f) (r0 : hp_in (M 116 f) 65536) : ∃ a t st mk n ti id : Int32, hp_in a 65536 ∧ hp_in n 65536 ∧ hp_in id 65536 ∧ ((f_X4_makeMoving (38 + f) p pt S = some (0, hp_H pt S a t mk n ti id) ∧ f_X7_comeWhole (nI f) (nI kd) (nI at_) M = some (0, hp_FS M a t mk n ti id st)) ∨ (f_X4_makeMoving (38 + f) p pt S = some (1, hs_U (hs_U (hs_U (hs_U (hs_U (hp_H pt S a t mk n ti id) (42 + f) 0 a) (42 + f) 1 t) (42 + f) 2 st) (42 + f) 3 (ti - n * st)) (42 + f) 4 ((id - n) &&& 65535)) ∧ f_X7_comeWhole (nI f) (nI kd) (nI at_) M = hs_b1 (f_X7_keep (nI f) n (hp_CX f (hp_FS M a t mk n ti id st) a t st (ti - n * st) ((id - n) &&& 65535))) (fun S_10 => some (1, hs_U S_10 115 f 2)))) := by
  have hp := hPK.1
  have hl := hPK.2.1
  have x127 : hs_N 127 = 20 := rfl
  -- the reference's reading of its moving part
  have h85 : ∀ (o : Nat) (a t st : Int32), l = at_ + o + 10 → (b (at_ + o) = 0 ∨ b (at_ + o) = 128) → f_X7_comeWhole_85 (nI f) (nI kd) a t st (nI (at_ + o)) M = f_X7_comeWhole_152 (nI f) (nI kd) a t st (nI (at_ + o)) (hp_tw b (at_ + (o + 1))) (hp_tw b (at_ + (o + 3)) * 65536 + hp_tw b (at_ + (o + 5))) (hp_tw b (at_ + (o + 7))) a t (if b (at_ + o) = 0 then 0 else 1) M := by
    intro o a t st hlo hb
    have two : ∀ i, at_ + i + 1 < l → f_X7_two (nI (at_ + i)) M = some (hp_tw b (at_ + i), M) := by
      intro i hi
      rw [hp_mTwo hm hl hi]
      unfold hp_tw
      rw [Int32.mul_comm]
    have o1 : nI (at_ + o) + (1 : Int32) = nI (at_ + (o + 1)) := nI_add (at_ + o) 1
    have o3 : nI (at_ + o) + (3 : Int32) = nI (at_ + (o + 3)) := nI_add (at_ + o) 3
    have o5 : nI (at_ + o) + (5 : Int32) = nI (at_ + (o + 5)) := nI_add (at_ + o) 5
    have o7 : nI (at_ + o) + (7 : Int32) = nI (at_ + (o + 7)) := nI_add (at_ + o) 7
    unfold f_X7_comeWhole_85
    rw [o1, o3, o5, o7, two _ (by omega), hp_b2, two _ (by omega), hp_b2, two _ (by omega), hp_b2, hp_l, two _ (by omega), hp_b2, x127, hp_ix (show at_ + o < 20 by omega), nI_clamp (show at_ + o < 2 ^ 31 by omega), hm.2 (at_ + o) (by omega)]
    rw [hp_time (hp_tw_in (hB _ (by omega)) (hB _ (by omega))) (hp_tw_in (hB _ (by omega)) (hB _ (by omega)))]
    rcases hb with e | e
    · rw [e, if_pos (by decide), if_pos rfl]
    · rw [e, if_neg (by decide), if_neg (by decide)]
  have two : ∀ i, at_ + i + 1 < l → f_X7_two (nI (at_ + i)) M = some (hp_tw b (at_ + i), M) := by
    intro i hi
    rw [hp_mTwo hm hl hi]
    unfold hp_tw
    rw [Int32.mul_comm]
  have split : ∀ (P : Prop) [Decidable P] (A B : Option (Int32 × hs_M)) (A' B' : Option (Int32 × hs_M)) (X Y : Option (Int32 × hs_M)), X = (if P then A else B) → Y = (if P then A' else B') → (X = B ∧ Y = B') ∨ (X = A ∧ Y = A') := by
    intro P _ A B A' B' X Y hX hY
    by_cases c : P
    · rw [if_pos c] at hX hY
      exact Or.inr ⟨hX, hY⟩
    · rw [if_neg c] at hX hY
      exact Or.inl ⟨hX, hY⟩
  rcases hkd with rfl | rfl
  · have hl3 : l = at_ + 11 := hl2
    have e0 : f_X7_comeWhole (nI f) (nI 3) (nI at_) M = f_X7_comeWhole_85 (nI f) (nI 3) (M 116 f) (M 117 f) (M 118 f) (nI (at_ + 1)) M := by
      unfold f_X7_comeWhole f_X7_comeWhole_0 f_X7_comeWhole_21 f_X7_comeWhole_45 f_X7_comeWhole_68
      have ne4 : ¬ (nI 3 = (4 : Int32)) := by decide
      rw [if_neg ne4, if_neg ne4, if_neg ne4, if_neg ne4, hp_ix (show f < hs_N 116 from hf), hp_ix (show f < hs_N 117 from hf), hp_ix (show f < hs_N 118 from hf), nI_clamp (show f < 2 ^ 31 by omega), nI_1]
    rw [h85 1 _ _ _ (by omega) (k3 rfl)] at e0
    have ra := r0
    have rn : hp_in (hp_tw b (at_ + (1 + 1))) 65536 := hp_tw_in (hB _ (by omega)) (hB _ (by omega))
    have ri : hp_in (hp_tw b (at_ + (1 + 7))) 65536 := hp_tw_in (hB _ (by omega)) (hB _ (by omega))
    rw [hp_m152 (l := l) (b := b) hf (Or.inl rfl) (hm.2 (at_ + 1 + 9) (by omega)) (by omega) _ _ _ _ _ _ _ ra rn ri (fun w => absurd w (by decide))] at e0
    have hPKs : hp_PK p l b (hs_U (hs_U S pt 0 (M 116 f)) pt 1 (M 117 f)) := hp_PK_o hPK (by (repeat (first | rw [hp_U1] | rw [hp_U2 (by omega)] | rw [hp_U3 (by omega)]))) (by funext j; (repeat (first | rw [hp_U1] | rw [hp_U2 (by omega)] | rw [hp_U3 (by omega)])))
    have c0 : f_X4_makeMoving (38 + f) p pt S = f_X4_makeMoving_51 (38 + f) p pt (M 118 f) (hs_U (hs_U S pt 0 (M 116 f)) pt 1 (M 117 f)) := by
      unfold f_X4_makeMoving f_X4_makeMoving_0
      rw [hk3, hp_l, if_neg (by decide), show 38 + f + 4 = 42 + f by omega, hp_l, hp_l, x0, x2, hp_U2 (by omega), x1]
    have c1 := hp_c51 (S := hs_U (hs_U S pt 0 (M 116 f)) pt 1 (M 117 f)) hf hpt hPKs (by (repeat (first | rw [hp_U1] | rw [hp_U2 (by omega)] | rw [hp_U3 (by omega)])); exact ha) (by (repeat (first | rw [hp_U1] | rw [hp_U2 (by omega)] | rw [hp_U3 (by omega)])); exact hk3) (Or.inl ⟨rfl, rfl⟩) (by omega) (hB _ (by omega)) (M 116 f) (M 117 f) (M 118 f) S (fun i hi => by funext j; (repeat (first | rw [hp_U1] | rw [hp_U2 (by omega)] | rw [hp_U3 (by omega)]))) (fun k hk => by (repeat (first | rw [hp_U1] | rw [hp_U2 (by omega)] | rw [hp_U3 (by omega)]))) (by (repeat (first | rw [hp_U1] | rw [hp_U2 (by omega)] | rw [hp_U3 (by omega)]))) (by (repeat (first | rw [hp_U1] | rw [hp_U2 (by omega)] | rw [hp_U3 (by omega)]))) _ _ _ _ rfl rfl rfl rfl
    exact ⟨_, _, _, _, _, _, _, ra, rn, ri, split _ _ _ _ _ _ _ (c0.trans c1) e0⟩
  · have hl3 : l = at_ + 16 := hl2
    have e6 : nI at_ + (6 : Int32) = nI (at_ + 6) := nI_add at_ 6
    have e3 : nI at_ + (3 : Int32) = nI (at_ + 3) := nI_add at_ 3
    have e4 : nI at_ + (4 : Int32) = nI (at_ + 4) := nI_add at_ 4
    have e0 : f_X7_comeWhole (nI f) (nI 4) (nI at_) M = f_X7_comeWhole_85 (nI f) (nI 4) (hp_tw b (at_ + 1)) (b (at_ + 3)) (hp_tw b (at_ + 4)) (nI (at_ + 6)) M := by
      unfold f_X7_comeWhole f_X7_comeWhole_0 f_X7_comeWhole_21 f_X7_comeWhole_45 f_X7_comeWhole_68
      have y4 : nI 4 = (4 : Int32) := rfl
      rw [if_pos y4, nI_1, two 1 (by omega), hp_b2, if_pos y4, e3, hp_l, x127, hp_ix (show at_ + 3 < 20 by omega), nI_clamp (show at_ + 3 < 2 ^ 31 by omega), hm.2 (at_ + 3) (by omega), if_pos y4, e4, two 4 (by omega), hp_b2, if_pos y4, e6]
    rw [h85 6 _ _ _ (by omega) (k4 rfl)] at e0
    have ra : hp_in (hp_tw b (at_ + 1)) 65536 := hp_tw_in (hB _ (by omega)) (hB _ (by omega))
    have rs : hp_in (hp_tw b (at_ + 4)) 65536 := hp_tw_in (hB _ (by omega)) (hB _ (by omega))
    have rn : hp_in (hp_tw b (at_ + (6 + 1))) 65536 := hp_tw_in (hB _ (by omega)) (hB _ (by omega))
    have ri : hp_in (hp_tw b (at_ + (6 + 7))) 65536 := hp_tw_in (hB _ (by omega)) (hB _ (by omega))
    rw [hp_m152 (l := l) (b := b) hf (Or.inr rfl) (hm.2 (at_ + 6 + 9) (by omega)) (by omega) _ _ _ _ _ _ _ ra rn ri (fun _ => rs)] at e0
    have hPKs : hp_PK p l b (hs_U (hs_U S pt 0 (hp_tw b (at_ + 1))) pt 1 (b (at_ + 3))) := hp_PK_o hPK (by (repeat (first | rw [hp_U1] | rw [hp_U2 (by omega)] | rw [hp_U3 (by omega)]))) (by funext j; (repeat (first | rw [hp_U1] | rw [hp_U2 (by omega)] | rw [hp_U3 (by omega)])))
    have c0 : f_X4_makeMoving (38 + f) p pt S = f_X4_makeMoving_51 (38 + f) p pt (hp_tw b (at_ + 4)) (hs_U (hs_U S pt 0 (hp_tw b (at_ + 1))) pt 1 (b (at_ + 3))) := by
      unfold f_X4_makeMoving f_X4_makeMoving_0 f_X3_strideTold f_X3_strideTold_0 f_X3_readFixed f_X3_readFixed_0
      have w4 : f_X3_ownTwo p 4 S = some (hp_tw b (at_ + 4), S) := hp_own2 hPK ha (i := 4) (by omega)
      have w1 : f_X3_ownTwo p 1 S = some (hp_tw b (at_ + 1), S) := hp_own2 hPK ha (i := 1) (by omega)
      have w3 : f_X3_own p 3 (hs_U S pt 0 (hp_tw b (at_ + 1))) = some (b (at_ + 3), hs_U S pt 0 (hp_tw b (at_ + 1))) := hp_own (hp_PK_o hPK (by (repeat (first | rw [hp_U1] | rw [hp_U2 (by omega)] | rw [hp_U3 (by omega)]))) (by funext j; (repeat (first | rw [hp_U1] | rw [hp_U2 (by omega)] | rw [hp_U3 (by omega)])))) (by (repeat (first | rw [hp_U1] | rw [hp_U2 (by omega)] | rw [hp_U3 (by omega)])); exact ha) (i := 3) (by omega)
      rw [hk3, hp_l, if_pos (by rfl), w4, hp_b2, hp_b2, w1, hp_b2, hp_l, w3, hp_b2, hp_l, hp_b1]
    have c1 := hp_c51 (S := hs_U (hs_U S pt 0 (hp_tw b (at_ + 1))) pt 1 (b (at_ + 3))) hf hpt hPKs (by (repeat (first | rw [hp_U1] | rw [hp_U2 (by omega)] | rw [hp_U3 (by omega)])); exact ha) (by (repeat (first | rw [hp_U1] | rw [hp_U2 (by omega)] | rw [hp_U3 (by omega)])); exact hk3) (Or.inr ⟨rfl, rfl⟩) (by omega) (hB _ (by omega)) (hp_tw b (at_ + 1)) (b (at_ + 3)) (hp_tw b (at_ + 4)) S (fun i hi => by funext j; (repeat (first | rw [hp_U1] | rw [hp_U2 (by omega)] | rw [hp_U3 (by omega)]))) (fun k hk => by (repeat (first | rw [hp_U1] | rw [hp_U2 (by omega)] | rw [hp_U3 (by omega)]))) (by (repeat (first | rw [hp_U1] | rw [hp_U2 (by omega)] | rw [hp_U3 (by omega)]))) (by (repeat (first | rw [hp_U1] | rw [hp_U2 (by omega)] | rw [hp_U3 (by omega)]))) _ _ _ _ rfl rfl rfl rfl
    exact ⟨_, _, _, _, _, _, _, ra, rn, ri, split _ _ _ _ _ _ _ (c0.trans c1) e0⟩
