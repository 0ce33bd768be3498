/-! ===== taking a packet, both sides ===== -/
theorem hp_takeS {f kd p pt l at_ : Nat} {b : Nat → Int32} {S M : hs_M} (hf : f < 4) (hpt : pt = 2 ∨ pt = 3) (hPK : hp_PK p l b S) (ha : S p 4 = nI at_) (hk3 : S p 3 = nI kd) (hkd : kd < 3) (hl2 : l = at_ + hp_sz kd) (hm : hp_MK l b M) (hB : ∀ i, i < l → hp_in (b i) 256) (hRR : hp_RR f S M) (hlev : M 115 f = 2) : ∃ r C1 v M1, f_X4_take (38 + f) p pt S = some (r, C1) ∧ f_X7_deliver_225 (nI at_) (nI f) (nI kd) M = some (v, M1) ∧ hp_TK f pt S M r C1 v M1 := by
  have hp := hPK.1
  obtain ⟨⟨a1, a2⟩, a3, a4, a5, ⟨b1, b2⟩, b3, b4, b5, b6⟩ := id hRR
  obtain ⟨r, how, good, num, rn, c1, m1, hcase⟩ := hp_smallB hf hpt hPK ha hk3 hkd hl2 hm hB a3 a4 b1 b3 b4 b5 b6 b2
  have hid : hp_in ((num + M 120 f) &&& 65535) 65536 := pk_andE _ 16 rfl
  generalize M 119 f + num * M 118 f = ti at *
  generalize (num + M 120 f) &&& 65535 = id at *
  generalize hp_mk kd b at_ = mk at *
  have hH : ∀ i, i ≠ pt → hp_H pt S (M 116 f) (M 117 f) mk num ti id i = S i := fun i hi => hp_H_o hi
  have hG : ∀ i, i ≠ 126 → hp_F M (M 116 f) (M 117 f) mk num ti id i = M i := fun i hi => hp_F_o hi
  have hheads : ∀ j, j < 11 → hp_part (hp_H pt S (M 116 f) (M 117 f) mk num ti id pt) j = hp_F M (M 116 f) (M 117 f) mk num ti id 126 j := by
    intro j hj
    rw [hp_F_i hj, hp_part_c (g := hp_hd (M 116 f) (M 117 f) mk num ti id) (fun k hk => hp_H_i hk)]
    exact hp_parts (h := hp_hd (M 116 f) (M 117 f) mk num ti id) (na := 65536) (nn := 65536) (ni := 65536) b2 rn hid (by decide) (by decide) (by decide) hj
  have h3 : hp_H pt S (M 116 f) (M 117 f) mk num ti id pt 3 = num := hp_H_i (by decide)
  generalize hp_H pt S (M 116 f) (M 117 f) mk num ti id = H at *
  generalize hp_F M (M 116 f) (M 117 f) mk num ti id = G at *
  have n3 : ¬ (3 : Int32) ≤ nI kd := nI_ge (b := 3) hkd (by decide)
  unfold f_X4_take f_X4_take_0 f_X4_take_23 f_X4_take_43 f_X7_deliver_225
  rw [hk3, if_neg n3, if_neg n3, c1, hp_b2, m1]
  have y7 : ∀ Q : Option (Int32 × hs_M), hs_ix (7 : Int32) 11 Q = Q := fun Q => hp_ix (c := 7) (by decide)
  have x1 : hs_N 125 = 11 := rfl
  have t7 : (7 : Int32).toNatClampNeg = 7 := rfl
  -- a head is made
  have good1 : ∃ C1 S1, f_X4_noteMade (38 + f) num H = some C1 ∧ f_X7_keep (nI f) num G = some S1 ∧ (∀ i, i ≠ pt → i ≠ 38 + f → C1 i = S i) ∧ (∀ i j, i ≠ 124 → i ≠ 125 → i ≠ 126 → ¬ (115 ≤ i ∧ i ≤ 123 ∧ j = f) → S1 i j = M i j) ∧ hp_RR f C1 S1 ∧ (∀ j, S1 125 j = if j = 6 then M 125 6 + 1 else M 125 j) ∧ (∀ j, j < 11 → hp_part (C1 pt) j = S1 124 j) := by
    obtain ⟨S1, s1, s2, s3, s4, s5, s6, s7⟩ := hp_keepM hf num G
    refine ⟨_, S1, hp_cMade _ _ _, s1, fun i i1 i2 => ?_, fun i j i1 i2 i3 i4 => ?_, ⟨⟨?_, ?_⟩, ?_, ?_, ?_, ⟨?_, ?_⟩, ?_, ?_, ?_, ?_⟩, fun j => ?_, fun j hj => ?_⟩
    · rw [← hH i i1]
      funext j
      (repeat (first | rw [hp_U1] | rw [hp_U2 (by omega)] | rw [hp_U3 (by omega)]))
    · rw [s7 i j i1 i2 (by omega), hG i i3]
    · (repeat (first | rw [hp_U1] | rw [hp_U2 (by omega)] | rw [hp_U3 (by omega)])); rw [s7 115 f (by decide) (by decide) (by omega), hG 115 (by decide), hlev]
    · rw [s7 115 f (by decide) (by decide) (by omega), hG 115 (by decide), hlev]; exact ⟨2, by decide, rfl⟩
    · (repeat (first | rw [hp_U1] | rw [hp_U2 (by omega)] | rw [hp_U3 (by omega)])); rw [s3]
    · (repeat (first | rw [hp_U1] | rw [hp_U2 (by omega)] | rw [hp_U3 (by omega)])); rw [s2, hG 115 (by decide), hG 121 (by decide), hH (38 + f) (by omega), a1, a3]
    · (repeat (first | rw [hp_U1] | rw [hp_U2 (by omega)] | rw [hp_U3 (by omega)])); rw [s4]
    · (repeat (first | rw [hp_U1] | rw [hp_U2 (by omega)] | rw [hp_U3 (by omega)])); rw [hH (42 + f) (by omega), s7 116 f (by decide) (by decide) (by omega), hG 116 (by decide)]; exact b1
    · rw [s7 116 f (by decide) (by decide) (by omega), hG 116 (by decide)]; exact b2
    · (repeat (first | rw [hp_U1] | rw [hp_U2 (by omega)] | rw [hp_U3 (by omega)])); rw [hH (42 + f) (by omega), s7 117 f (by decide) (by decide) (by omega), hG 117 (by decide)]; exact b3
    · (repeat (first | rw [hp_U1] | rw [hp_U2 (by omega)] | rw [hp_U3 (by omega)])); rw [hH (42 + f) (by omega), s7 118 f (by decide) (by decide) (by omega), hG 118 (by decide)]; exact b4
    · (repeat (first | rw [hp_U1] | rw [hp_U2 (by omega)] | rw [hp_U3 (by omega)])); rw [hH (42 + f) (by omega), s7 119 f (by decide) (by decide) (by omega), hG 119 (by decide)]; exact b5
    · (repeat (first | rw [hp_U1] | rw [hp_U2 (by omega)] | rw [hp_U3 (by omega)])); rw [hH (42 + f) (by omega), s7 120 f (by decide) (by decide) (by omega), hG 120 (by decide)]; exact b6
    · rw [s5 j, hG 125 (by decide)]
    · rw [s6 j hj, ← hheads j hj]
      refine hp_part_c (fun k hk => ?_) j
      (repeat (first | rw [hp_U1] | rw [hp_U2 (by omega)] | rw [hp_U3 (by omega)]))
  rcases hcase with ⟨rfl, rfl⟩ | ⟨rfl, rfl, rfl⟩ | ⟨rfl, rfl, rfl⟩
  · obtain ⟨C1, M1, o1, o2, o3⟩ := hp_tkFail hf hpt hRR hH hG
    refine ⟨0, C1, 0, M1, ?_, ?_, o3⟩
    · rw [if_pos rfl, o1, hp_b1]
    · unfold f_X7_comeSmall_259 f_X7_comeSmall_292 f_X7_comeSmall_303
      rw [if_pos rfl, if_pos rfl, hp_b2]
      exact o2
  · obtain ⟨C1, S1, o1, o2, o3, o4, o5, o6, o7⟩ := good1
    refine ⟨1, C1, nI f, hs_U S1 125 7 (S1 125 7 + 0), ?_, ?_, fun i i1 i2 _ => o3 i i1 i2, fun i j i1 i2 i3 _ i5 => by rw [hp_U2 i2]; exact o4 i j i1 i2 i3 i5, hp_RR_fr o5 rfl rfl (fun i i1 i2 => hp_U2 (by omega)), Or.inr (Or.inl ⟨rfl, rfl, ?_, fun j => ?_, fun j hj => ?_⟩)⟩
    · rw [if_neg (by decide), h3, o1, hp_b1]
    · unfold f_X7_comeSmall_259 f_X7_comeSmall_290 f_X7_comeSmall_292 f_X7_comeSmall_303 f_X7_deliver_258 f_X7_deliver_289
      rw [if_neg (by decide), o2, hp_b1, x1, y7, if_neg (by decide), y7, t7, hp_l, if_neg (by decide), hp_b2, if_neg (by decide), if_neg (by decide), Int32.add_zero]
    · rw [hp_U2 (by decide), o4 100 0 (by decide) (by decide) (by decide) (by omega)]
    · by_cases hj : j = 7
      · rw [hj, hp_U1, Int32.add_zero, o6 7]
      · rw [hp_U3 hj, o6 j]
    · rw [hp_U2 (by decide)]
      exact o7 j hj
  · obtain ⟨C1, S1, o1, o2, o3, o4, o5, o6, o7⟩ := good1
    refine ⟨2, C1, nI f + 4, hs_U S1 125 7 (S1 125 7 + 1), ?_, ?_, fun i i1 i2 _ => o3 i i1 i2, fun i j i1 i2 i3 _ i5 => by rw [hp_U2 i2]; exact o4 i j i1 i2 i3 i5, hp_RR_fr o5 rfl rfl (fun i i1 i2 => hp_U2 (by omega)), Or.inr (Or.inr ⟨rfl, rfl, ?_, fun j => ?_, fun j hj => ?_⟩)⟩
    · rw [if_neg (by decide), h3, o1, hp_b1]
    · unfold f_X7_comeSmall_259 f_X7_comeSmall_290 f_X7_comeSmall_292 f_X7_comeSmall_303 f_X7_deliver_258 f_X7_deliver_289
      rw [if_neg (by decide), o2, hp_b1, x1, y7, if_pos rfl, y7, t7, hp_l, if_neg (by decide), hp_b2, if_neg (by decide), if_pos rfl]
    · rw [hp_U2 (by decide), o4 100 0 (by decide) (by decide) (by decide) (by omega)]
    · by_cases hj : j = 7
      · rw [hj, hp_U1, if_pos rfl, o6 7]
        rfl
      · rw [hp_U3 hj, if_neg hj, o6 j]
    · rw [hp_U2 (by decide)]
      exact o7 j hj
theorem hp_takeW {f kd p pt l at_ : Nat} {b : Nat → Int32} {S M : hs_M} (hf : f < 4) (hpt : pt = 2 ∨ pt = 3) (hPK : hp_PK p l b S) (ha : S p 4 = nI at_) (hk3 : S p 3 = nI kd) (hkd : kd = 3 ∨ kd = 4) (hl2 : l = at_ + hp_sz kd) (hm : hp_MK l b M) (hB : ∀ i, i < l → hp_in (b i) 256) (k3 : kd = 3 → b (at_ + 1) = 0 ∨ b (at_ + 1) = 128) (k4 : kd = 4 → b (at_ + 6) = 0 ∨ b (at_ + 6) = 128) (hRR : hp_RR f S M) : ∃ r C1 v M1, f_X4_take (38 + f) p pt S = some (r, C1) ∧ f_X7_deliver_225 (nI at_) (nI f) (nI kd) M = some (v, M1) ∧ hp_TK f pt S M r C1 v M1 := by
  have hp := hPK.1
  obtain ⟨⟨a1, a2⟩, a3, a4, a5, ⟨b1, b2⟩, b3, b4, b5, b6⟩ := id hRR
  obtain ⟨a, t, st, mk, n, ti, id, ra, rn, ri, hcase⟩ := hp_wholeB hf hpt hPK ha hk3 hkd hl2 hm hB k3 k4 b1 b3 b4 b2
  have hH : ∀ i, i ≠ pt → hp_H pt S a t mk n ti id i = S i := fun i hi => hp_H_o hi
  have hG : ∀ i, i ≠ 126 → hp_FS M a t mk n ti id st i = M i := fun i hi => hp_FS_o hi
  have hheads : ∀ j, j < 11 → hp_part (hp_H pt S a t mk n ti id pt) j = hp_FS M a t mk n ti id st 126 j := by
    intro j hj
    rw [hp_FS_i hj, hp_part_c (g := hp_hd a t mk n ti id) (fun k hk => hp_H_i hk)]
    exact hp_parts (h := hp_hd a t mk n ti id) (na := 65536) (nn := 65536) (ni := 65536) ra rn ri (by decide) (by decide) (by decide) hj
  have h3 : hp_H pt S a t mk n ti id pt 3 = n := hp_H_i (by decide)
  generalize hp_H pt S a t mk n ti id = H at *
  generalize hp_FS M a t mk n ti id st = G at *
  generalize ti - n * st = ph at *
  generalize (id - n) &&& 65535 = of at *
  have n3 : (3 : Int32) ≤ nI kd := nI_le (a := 3) (by omega) (by omega)
  unfold f_X4_take f_X4_take_0 f_X4_take_23 f_X4_take_43 f_X7_deliver_225
  rw [hk3, if_pos n3, if_pos n3]
  rcases hcase with ⟨c1, m1⟩ | ⟨c1, m1⟩
  · obtain ⟨C1, M1, o1, o2, o3⟩ := hp_tkFail hf hpt hRR hH hG
    refine ⟨0, C1, 0, M1, ?_, ?_, o3⟩
    · rw [c1, hp_b2, if_pos rfl, o1, hp_b1]
    · rw [m1, hp_b2, if_pos rfl]
      exact o2
  · obtain ⟨S1, s1, s2, s3, s4, s5, s6, s7⟩ := hp_keepM hf n (hp_CX f G a t st ph of)
    have hCX : ∀ i j, (i < 116 ∨ 120 < i ∨ j ≠ f) → hp_CX f G a t st ph of i j = G i j := by
      intro i j hij
      unfold hp_CX
      by_cases hj : j = f
      · have h3 : i < 116 ∨ 120 < i := by omega
        (repeat (first | rw [hp_U1] | rw [hp_U2 (by omega)] | rw [hp_U3 (by omega)]))
      · (repeat (first | rw [hp_U1] | rw [hp_U2 (by omega)] | rw [hp_U3 (by omega)]))
    have hT3 : hs_U (hs_U (hs_U (hs_U (hs_U H (42 + f) 0 a) (42 + f) 1 t) (42 + f) 2 st) (42 + f) 3 ph) (42 + f) 4 of pt 3 = n := by (repeat (first | rw [hp_U1] | rw [hp_U2 (by omega)] | rw [hp_U3 (by omega)])); exact h3
    have hTo : ∀ i, i ≠ 42 + f → hs_U (hs_U (hs_U (hs_U (hs_U H (42 + f) 0 a) (42 + f) 1 t) (42 + f) 2 st) (42 + f) 3 ph) (42 + f) 4 of i = H i := fun i hi => by funext j; (repeat (first | rw [hp_U1] | rw [hp_U2 (by omega)] | rw [hp_U3 (by omega)]))
    refine ⟨1, hs_U (hs_U (hs_U (hs_U (hs_U (hs_U (hs_U (hs_U (hs_U H (42 + f) 0 a) (42 + f) 1 t) (42 + f) 2 st) (42 + f) 3 ph) (42 + f) 4 of) (38 + f) 3 (if (hs_U (hs_U (hs_U (hs_U (hs_U H (42 + f) 0 a) (42 + f) 1 t) (42 + f) 2 st) (42 + f) 3 ph) (42 + f) 4 of) (38 + f) 1 = 0 then n else (hs_U (hs_U (hs_U (hs_U (hs_U H (42 + f) 0 a) (42 + f) 1 t) (42 + f) 2 st) (42 + f) 3 ph) (42 + f) 4 of) (38 + f) 2)) (38 + f) 2 n) (38 + f) 1 2) (38 + f) 4 0, nI f, hs_U S1 115 f 2, ?_, ?_, fun i i1 i2 i3 => ?_, fun i j i1 i2 i3 i4 i5 => ?_, ⟨⟨?_, ?_⟩, ?_, ?_, ?_, ⟨?_, ?_⟩, ?_, ?_, ?_, ?_⟩, Or.inr (Or.inl ⟨rfl, rfl, ?_, fun j => ?_, fun j hj => ?_⟩)⟩
    · rw [c1, hp_b2, if_neg (by decide), hT3, hp_cMade, hp_b1]
    · unfold f_X7_deliver_258 f_X7_deliver_289
      rw [m1, s1, hp_b1, hp_b2, if_neg (by decide), if_neg (by decide), if_neg (by decide), Int32.add_zero]
    · rw [← hH i i1, ← hTo i i3]
      funext j
      (repeat (first | rw [hp_U1] | rw [hp_U2 (by omega)] | rw [hp_U3 (by omega)]))
    · have e : hs_U S1 115 f 2 i j = S1 i j := if_neg (by omega)
      rw [e, s7 i j i1 i2 (by omega), hCX i j (by omega), hG i i3]
    · (repeat (first | rw [hp_U1] | rw [hp_U2 (by omega)] | rw [hp_U3 (by omega)]))
    · (repeat (first | rw [hp_U1] | rw [hp_U2 (by omega)] | rw [hp_U3 (by omega)])); exact ⟨2, by decide, rfl⟩
    · (repeat (first | rw [hp_U1] | rw [hp_U2 (by omega)] | rw [hp_U3 (by omega)])); rw [s3]
    · (repeat (first | rw [hp_U1] | rw [hp_U2 (by omega)] | rw [hp_U3 (by omega)])); rw [s2, hCX 115 f (by omega), hCX 121 f (by omega), hG 115 (by decide), hG 121 (by decide), hH (38 + f) (by omega), a1, a3]
    · (repeat (first | rw [hp_U1] | rw [hp_U2 (by omega)] | rw [hp_U3 (by omega)])); rw [s4]
    · (repeat (first | rw [hp_U1] | rw [hp_U2 (by omega)] | rw [hp_U3 (by omega)])); rw [s7 116 f (by decide) (by decide) (by omega)]; unfold hp_CX; (repeat (first | rw [hp_U1] | rw [hp_U2 (by omega)] | rw [hp_U3 (by omega)]))
    · (repeat (first | rw [hp_U1] | rw [hp_U2 (by omega)] | rw [hp_U3 (by omega)])); rw [s7 116 f (by decide) (by decide) (by omega)]; unfold hp_CX; (repeat (first | rw [hp_U1] | rw [hp_U2 (by omega)] | rw [hp_U3 (by omega)])); exact ra
    · (repeat (first | rw [hp_U1] | rw [hp_U2 (by omega)] | rw [hp_U3 (by omega)])); rw [s7 117 f (by decide) (by decide) (by omega)]; unfold hp_CX; (repeat (first | rw [hp_U1] | rw [hp_U2 (by omega)] | rw [hp_U3 (by omega)]))
    · (repeat (first | rw [hp_U1] | rw [hp_U2 (by omega)] | rw [hp_U3 (by omega)])); rw [s7 118 f (by decide) (by decide) (by omega)]; unfold hp_CX; (repeat (first | rw [hp_U1] | rw [hp_U2 (by omega)] | rw [hp_U3 (by omega)]))
    · (repeat (first | rw [hp_U1] | rw [hp_U2 (by omega)] | rw [hp_U3 (by omega)])); rw [s7 119 f (by decide) (by decide) (by omega)]; unfold hp_CX; (repeat (first | rw [hp_U1] | rw [hp_U2 (by omega)] | rw [hp_U3 (by omega)]))
    · (repeat (first | rw [hp_U1] | rw [hp_U2 (by omega)] | rw [hp_U3 (by omega)])); rw [s7 120 f (by decide) (by decide) (by omega)]; unfold hp_CX; (repeat (first | rw [hp_U1] | rw [hp_U2 (by omega)] | rw [hp_U3 (by omega)]))
    · rw [hp_U2 (by decide), s7 100 0 (by decide) (by decide) (by omega), hCX 100 0 (by omega), hG 100 (by decide)]
    · rw [hp_U2 (by decide), s5 j, hCX 125 6 (by omega), hCX 125 j (by omega), hG 125 (by decide)]
    · rw [show hs_U S1 115 f 2 124 j = S1 124 j from hp_U2 (by decide), s6 j hj, hCX 126 j (by omega), ← hheads j hj]
      refine hp_part_c (fun k hk => ?_) j
      (repeat (first | rw [hp_U1] | rw [hp_U2 (by omega)] | rw [hp_U3 (by omega)]))
