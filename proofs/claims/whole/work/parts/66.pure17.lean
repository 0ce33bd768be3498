/-! ===== a small packet, both sides ===== -/
theorem hp_part_c {h g : Nat → Int32} (e : ∀ k, k < 6 → h k = g k) (i : Nat) : hp_part h i = hp_part g i := by
  unfold hp_part
  rw [e 0 (by decide), e 1 (by decide), e 2 (by decide), e 3 (by decide), e 4 (by decide), e 5 (by decide)]
theorem hp_su_c {h g : Nat → Int32} (e : ∀ k, k < 6 → h k = g k) (st : Int32) (k : Nat) : hp_su h st k = hp_su g st k := by
  unfold hp_su
  refine hp_sm_congr _ _ 0 (fun j _ _ => ?_)
  unfold hp_pst
  rw [hp_part_c e]
theorem hp_PK_o {p l : Nat} {b : Nat → Int32} {S S' : hs_M} (h : hp_PK p l b S) (e1 : S' p 1 = S p 1) (e2 : S' (p + 9) = S (p + 9)) : hp_PK p l b S' := ⟨h.1, h.2.1, by rw [e1]; exact h.2.2.1, fun i hi => by rw [e2]; exact h.2.2.2 i hi⟩
theorem hp_complete {c pt : Nat} (hc : c ≠ pt) (num : Int32) (S : hs_M) : f_X0_complete c pt num S = some (hs_U (hs_U (hs_U (hs_U (hs_U S pt 0 (S c 0)) pt 1 (S c 1)) pt 3 num) pt 4 (S c 3 + num * S c 2)) pt 5 ((S c 4 + num) &&& 65535)) := by
  unfold f_X0_complete f_X0_complete_0
  have e1 : ∀ (S : hs_M) (k j : Nat) (x : Int32), hs_U S pt k x c j = S c j := fun S k j x => hp_U2 hc
  simp only [hp_l, e1]
theorem hp_fitsB {f kd p pt l at_ : Nat} {b : Nat → Int32} {S M : hs_M} (hf : f < 4) (hpt : pt = 2 ∨ pt = 3) (hPK : hp_PK p l b S) (ha : S p 4 = nI at_) (hk3 : S p 3 = nI kd) (hkd : kd < 3) (hl2 : l = at_ + hp_sz kd) (x0 : S (42 + f) 0 = M 116 f) (x1 : S (42 + f) 1 = M 117 f) (x2 : S (42 + f) 2 = M 118 f) (x3 : S (42 + f) 3 = M 119 f) (x4 : S (42 + f) 4 = M 120 f) (r0 : hp_in (M 116 f) 65536) {num : Int32} (rn : hp_in num 65536) : ∃ r : Int32, (r = 0 ∨ r = 1) ∧ f_X4_fits (38 + f) p pt num S = some (r, hp_H pt S (M 116 f) (M 117 f) (hp_mk kd b at_) num (M 119 f + num * M 118 f) ((num + M 120 f) &&& 65535)) ∧ f_X7_fits (nI f) (nI kd) num (hp_mk kd b at_) (b (l - 1) &&& hp_ks kd) M = some (r, hp_F M (M 116 f) (M 117 f) (hp_mk kd b at_) num (M 119 f + num * M 118 f) ((num + M 120 f) &&& 65535)) := by
  have hp := hPK.1
  have hl := hPK.2.1
  have hsz : 1 ≤ hp_sz kd := by
    rcases (show kd = 0 ∨ kd = 1 ∨ kd = 2 by omega) with rfl | rfl | rfl <;> decide
  have hsu : hp_su (hp_hd (M 116 f) (M 117 f) (hp_mk kd b at_) num (M 119 f + num * M 118 f) ((num + M 120 f) &&& 65535)) (M 118 f) kd = hp_sm (hp_kp kd) (hp_F M (M 116 f) (M 117 f) (hp_mk kd b at_) num (M 119 f + num * M 118 f) ((num + M 120 f) &&& 65535) 126) 11 (hp_ks kd) 0 := by
    refine hp_su_congr (st := 0) (by omega) (fun i hi => ?_)
    rw [hp_F_i hi]
    exact hp_parts (h := hp_hd (M 116 f) (M 117 f) (hp_mk kd b at_) num (M 119 f + num * M 118 f) ((num + M 120 f) &&& 65535)) (na := 65536) (nn := 65536) (ni := 65536) r0 rn (pk_andE _ 16 rfl) (by decide) (by decide) (by decide) hi
  refine ⟨if hp_su (hp_hd (M 116 f) (M 117 f) (hp_mk kd b at_) num (M 119 f + num * M 118 f) ((num + M 120 f) &&& 65535)) (M 118 f) kd = b (l - 1) &&& hp_ks kd then 1 else 0, ?_, ?_, ?_⟩
  · by_cases c : hp_su (hp_hd (M 116 f) (M 117 f) (hp_mk kd b at_) num (M 119 f + num * M 118 f) ((num + M 120 f) &&& 65535)) (M 118 f) kd = b (l - 1) &&& hp_ks kd
    · rw [if_pos c]; exact Or.inr rfl
    · rw [if_neg c]; exact Or.inl rfl
  · have hcp : 42 + f ≠ pt := by omega
    unfold f_X4_fits f_X4_fits_0
    rw [show 38 + f + 4 = 42 + f by omega, hp_complete hcp, hp_b1, x0, x1, x2, x3, x4]
    generalize hS5 : hs_U (hs_U (hs_U (hs_U (hs_U S pt 0 (M 116 f)) pt 1 (M 117 f)) pt 3 num) pt 4 (M 119 f + num * M 118 f)) pt 5 ((M 120 f + num) &&& 65535) = S5
    have so : ∀ i, i ≠ pt → S5 i = S i := by
      intro i hi
      rw [← hS5]
      funext j
      (repeat (first | rw [hp_U1] | rw [hp_U2 (by omega)] | rw [hp_U3 (by omega)]))
    have e6 : hs_U S5 pt 2 (hp_mk kd b at_) = hp_H pt S (M 116 f) (M 117 f) (hp_mk kd b at_) num (M 119 f + num * M 118 f) ((num + M 120 f) &&& 65535) := by
      refine hp_hdM ?_ ?_ ?_ ?_ ?_ ?_ (fun i k hik => ?_)
      · rw [← hS5]; (repeat (first | rw [hp_U1] | rw [hp_U2 (by omega)] | rw [hp_U3 (by omega)]))
      · rw [← hS5]; (repeat (first | rw [hp_U1] | rw [hp_U2 (by omega)] | rw [hp_U3 (by omega)]))
      · (repeat (first | rw [hp_U1] | rw [hp_U2 (by omega)] | rw [hp_U3 (by omega)]))
      · rw [← hS5]; (repeat (first | rw [hp_U1] | rw [hp_U2 (by omega)] | rw [hp_U3 (by omega)]))
      · rw [← hS5]; (repeat (first | rw [hp_U1] | rw [hp_U2 (by omega)] | rw [hp_U3 (by omega)]))
      · rw [← hS5]; (repeat (first | rw [hp_U1] | rw [hp_U2 (by omega)] | rw [hp_U3 (by omega)])); rw [Int32.add_comm]
      · rw [← hS5]
        by_cases hi : i = pt
        · have hk6 : 6 ≤ k := by omega
          (repeat (first | rw [hp_U1] | rw [hp_U2 (by omega)] | rw [hp_U3 (by omega)]))
        · (repeat (first | rw [hp_U1] | rw [hp_U2 (by omega)] | rw [hp_U3 (by omega)]))
    have hPK5 : hp_PK p l b S5 := hp_PK_o hPK (by rw [so p (by omega)]) (so _ (by omega))
    obtain ⟨t1, t2⟩ := hp_told hPK5 (by rw [so p (by omega)]; exact ha) (by rw [so p (by omega)]; exact hk3) hkd hl2
    rw [t1, hp_b2, hp_bg (hp_mk_01 kd b at_), hp_l, e6]
    have f1 : hp_H pt S (M 116 f) (M 117 f) (hp_mk kd b at_) num (M 119 f + num * M 118 f) ((num + M 120 f) &&& 65535) p = S p := hp_H_o (by omega)
    have f2 : hp_H pt S (M 116 f) (M 117 f) (hp_mk kd b at_) num (M 119 f + num * M 118 f) ((num + M 120 f) &&& 65535) (42 + f) = S (42 + f) := hp_H_o hcp
    have hPK6 : hp_PK p l b (hp_H pt S (M 116 f) (M 117 f) (hp_mk kd b at_) num (M 119 f + num * M 118 f) ((num + M 120 f) &&& 65535)) := hp_PK_o hPK (by rw [f1]) (hp_H_o (by omega))
    rw [f1, f2, hk3, x2, hp_cSum pt (by omega), hp_b2, hp_sumT hPK6 (by rw [f1]; exact hk3) (by omega) (by omega), hp_b2]
    rw [hp_su_c (h := hp_H pt S (M 116 f) (M 117 f) (hp_mk kd b at_) num (M 119 f + num * M 118 f) ((num + M 120 f) &&& 65535) pt) (g := hp_hd (M 116 f) (M 117 f) (hp_mk kd b at_) num (M 119 f + num * M 118 f) ((num + M 120 f) &&& 65535)) (fun k hk => hp_H_i hk)]
    unfold f_X4_fits_44
    rw [hp_bg0, hp_bg1]
    by_cases c : hp_su (hp_hd (M 116 f) (M 117 f) (hp_mk kd b at_) num (M 119 f + num * M 118 f) ((num + M 120 f) &&& 65535)) (M 118 f) kd = b (l - 1) &&& hp_ks kd
    · rw [if_pos c, if_pos c]
    · rw [if_neg c, if_neg c]
  · rw [hsu]
    unfold f_X7_fits f_X7_fits_0
    rw [hp_ix (show f < hs_N 116 from hf), hp_ix (show f < hs_N 117 from hf), hp_ix (show f < hs_N 119 from hf), hp_ix (show f < hs_N 118 from hf), hp_ix (show f < hs_N 120 from hf), nI_clamp (by omega), hp_mFill, hp_b1]
    generalize hp_F M (M 116 f) (M 117 f) (hp_mk kd b at_) num (M 119 f + num * M 118 f) ((num + M 120 f) &&& 65535) = MF
    have h66 : ∀ (y x s : Int32), f_X7_sum y 11 MF = some (x, MF) → f_X7_fits_66 s y MF = some (if x = s then 1 else 0, MF) := by
      intro y x s hy
      unfold f_X7_fits_66 f_X7_fits_81
      rw [hy, hp_b2, hp_bg0, hp_bg1]
      by_cases c : x = s
      · rw [if_pos c, if_pos c]
      · rw [if_neg c, if_neg c]
    rcases (show kd = 0 ∨ kd = 1 ∨ kd = 2 by omega) with rfl | rfl | rfl
    · exact h66 3 _ _ (hp_mS3 MF (N := 11) (by decide))
    · exact h66 7 _ _ (hp_mS7 MF (N := 11) (by decide))
    · exact h66 8 _ _ (hp_mS8 MF (N := 11) (by decide))
def hp_nr (v : Int32) (kd : Nat) (low : Int32) : Int32 := ((v - hp_bk kd) + ((low - (v - hp_bk kd)) &&& hp_lb kd)) &&& 65535
theorem hp_nr_in (v : Int32) (kd : Nat) (low : Int32) : hp_in (hp_nr v kd low) 65536 := pk_andE _ 16 rfl
theorem hp_cNr {p l at_ kd : Nat} {b : Nat → Int32} {S : hs_M} (h : hp_PK p l b S) (ha : S p 4 = nI at_) (hk3 : S p 3 = nI kd) (hk : kd < 3) (hl2 : l = at_ + hp_sz kd) (v : Int32) : f_X4_numberNear v p S = some (hp_nr v kd (hp_lw kd b at_), S) := by
  unfold f_X4_numberNear f_X4_numberNear_0 hp_nr
  have s4 : ∀ kd, kd < 3 → hs_sv 4 kd = hp_bk kd ∧ hs_sv 3 kd = hp_lb kd := by decide +kernel
  rw [hk3, hp_l, hp_ix (show kd < hs_sn 4 from hk), hp_l, (hp_told h ha hk3 hk hl2).2, hp_b2, hk3, hp_l, hp_ix (show kd < hs_sn 3 from hk), hp_l, nI_clamp (by omega), (s4 kd hk).1, (s4 kd hk).2]
theorem hp_mNr {kd : Nat} (hk : kd < 3) (v low : Int32) (M : hs_M) : f_X7_near v (nI kd) low M = some (hp_nr v kd low, M) := by
  obtain ⟨k1, bt, k2, k3⟩ := hp_bkE hk M
  unfold f_X7_near f_X7_near_0 hp_nr
  have e : hp_lb kd + 1 - 1 = hp_lb kd := by
    rcases (show kd = 0 ∨ kd = 1 ∨ kd = 2 by omega) with rfl | rfl | rfl <;> decide
  rw [k1, hp_b2, hp_l, k2, hp_b2, k3, e, hp_l]
theorem hp_bf {x : Int32} (hx : hp_in x 256) : x / 8 = hs_ushr x 3 ∧ hs_rem x 8 = x &&& 7 ∧ hs_rem x 64 = x &&& 63 ∧ hs_rem x 128 = x &&& 127 ∧ hs_rem x 32 = x &&& 31 ∧ x &&& 255 = x ∧ (x ≤ 127 ↔ x < 128) ∧ (x ≤ 127 ↔ ¬ 127 < x) := by
  obtain ⟨j, hj, rfl⟩ := hx
  have key : ∀ j, j < 256 → (nI j / 8 = hs_ushr (nI j) 3 ∧ hs_rem (nI j) 8 = nI j &&& 7) ∧ (hs_rem (nI j) 64 = nI j &&& 63 ∧ hs_rem (nI j) 128 = nI j &&& 127) ∧ (hs_rem (nI j) 32 = nI j &&& 31 ∧ nI j &&& 255 = nI j) ∧ ((nI j ≤ 127 ↔ nI j < 128) ∧ (nI j ≤ 127 ↔ ¬ 127 < nI j)) := by decide +kernel
  obtain ⟨⟨a, b⟩, ⟨c, d⟩, ⟨e, f⟩, g, h⟩ := key j hj
  exact ⟨a, b, c, d, e, f, g, h⟩
theorem hp_m154 {f kd l at_ : Nat} {b : Nat → Int32} {M : hs_M} (hkd : kd < 3) (hm : hp_MK l b M) (hl : l ≤ 17) (hl2 : l = at_ + hp_sz kd) (hB : ∀ i, i < l → hp_in (b i) 256) : f_X7_comeSmall (nI f) (nI kd) (nI at_) M = f_X7_comeSmall_154 (nI f) (nI kd) (hp_lw kd b at_) (hp_mk kd b at_) (b (l - 1) &&& hp_ks kd) M := by
  have x1 : hs_N 127 = 20 := rfl
  unfold f_X7_comeSmall f_X7_comeSmall_0 f_X7_comeSmall_57 f_X7_comeSmall_107 f_X7_comeSmall_108
  have g : ∀ i, at_ + i < l → M 127 (at_ + i) = b (at_ + i) := fun i hi => hm.2 _ hi
  have g0 : at_ < l → M 127 at_ = b at_ := fun hi => hm.2 _ hi
  rcases (show kd = 0 ∨ kd = 1 ∨ kd = 2 by omega) with rfl | rfl | rfl
  · have hl3 : l = at_ + 1 := hl2
    have y := hp_bf (hB at_ (by omega))
    have e1 : (nI 0 = (0 : Int32)) := rfl
    have e2 : ¬ (nI 0 = (1 : Int32)) := by decide
    have e3 : ¬ (nI 0 = (2 : Int32)) := by decide
    simp only [if_pos e1, if_neg e2, if_neg e3]
    rw [x1, hp_ix (show at_ < 20 by omega), hp_ix (show at_ < 20 by omega), nI_clamp (by omega), g0 (by omega), y.1, y.2.1, show l - 1 = at_ by omega]
    rfl
  · have hl3 : l = at_ + 2 := hl2
    have y := hp_bf (hB at_ (by omega))
    have z := hp_bf (hB (at_ + 1) (by omega))
    have e1 : ¬ (nI 1 = (0 : Int32)) := by decide
    have e2 : (nI 1 = (1 : Int32)) := rfl
    simp only [if_neg e1, if_pos e2, hp_l, nI_1]
    rw [x1, hp_ix (show at_ < 20 by omega), hp_ix (show at_ + 1 < 20 by omega), hp_ix (show at_ + 1 < 20 by omega), hp_ix (show at_ + 1 < 20 by omega), nI_clamp (show at_ < 2 ^ 31 by omega), nI_clamp (show at_ + 1 < 2 ^ 31 by omega), g0 (by omega), g 1 (by omega), y.2.2.1, z.2.2.2.1, show l - 1 = at_ + 1 by omega]
    by_cases c : b (at_ + 1) ≤ 127
    · rw [if_pos c]
      have em : hp_mk 1 b at_ = 0 := by
        unfold hp_mk
        rw [if_neg (by decide), if_pos rfl, if_pos (z.2.2.2.2.2.2.1.mp c)]
      rw [em]
      rfl
    · rw [if_neg c]
      have em : hp_mk 1 b at_ = 1 := by
        unfold hp_mk
        rw [if_neg (by decide), if_pos rfl, if_neg (fun w => c (z.2.2.2.2.2.2.1.mpr w))]
      rw [em]
      rfl
  · have hl3 : l = at_ + 3 := hl2
    have y := hp_bf (hB at_ (by omega))
    have z := hp_bf (hB (at_ + 1) (by omega))
    have w := hp_bf (hB (at_ + 2) (by omega))
    have e1 : ¬ (nI 2 = (0 : Int32)) := by decide
    have e2 : ¬ (nI 2 = (1 : Int32)) := by decide
    have e3 : (nI 2 = (2 : Int32)) := rfl
    have e4 : nI at_ + (2 : Int32) = nI (at_ + 2) := nI_add at_ 2
    simp only [if_neg e1, if_neg e2, if_pos e3, hp_l, nI_1, e4]
    rw [x1, hp_ix (show at_ < 20 by omega), hp_ix (show at_ + 1 < 20 by omega), hp_ix (show at_ + 1 < 20 by omega), hp_ix (show at_ + 2 < 20 by omega), hp_ix (show at_ + 2 < 20 by omega), nI_clamp (show at_ < 2 ^ 31 by omega), nI_clamp (show at_ + 1 < 2 ^ 31 by omega), nI_clamp (show at_ + 2 < 2 ^ 31 by omega), g0 (by omega), g 1 (by omega), g 2 (by omega), y.2.2.2.2.1, z.1, show l - 1 = at_ + 2 by omega]
    have e5 : b (at_ + 2) &&& hp_ks 2 = b (at_ + 2) := w.2.2.2.2.2.1
    rw [e5]
    by_cases c : b (at_ + 1) &&& 4 = 0
    · rw [if_pos c]
      have em : hp_mk 2 b at_ = 0 := by
        unfold hp_mk
        rw [if_neg (by decide), if_neg (by decide), if_pos c]
      rw [em]
      rfl
    · rw [if_neg c]
      have em : hp_mk 2 b at_ = 1 := by
        unfold hp_mk
        rw [if_neg (by decide), if_neg (by decide), if_neg c]
      rw [em]
      rfl
