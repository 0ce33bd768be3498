/-! ===== a head is made, both sides ===== -/
theorem hp_smallB {f kd p pt l at_ : Nat} {b : Nat → Int32} {S M : hs_M} (hf : f < 4) (hpt : pt = 2 ∨ pt = 3) (hPK : hp_PK p l b S) (ha : S p 4 = nI at_) (hk3 : S p 3 = nI kd) (hkd : kd < 3) (hl2 : l = at_ + hp_sz kd) (hm : hp_MK l b M) (hB : ∀ i, i < l → hp_in (b i) 256) (q2 : S (38 + f) 2 = M 121 f) (q3 : S (38 + f) 3 = M 122 f) (x0 : S (42 + f) 0 = M 116 f) (x1 : S (42 + f) 1 = M 117 f) (x2 : S (42 + f) 2 = M 118 f) (x3 : S (42 + f) 3 = M 119 f) (x4 : S (42 + f) 4 = M 120 f) (r0 : hp_in (M 116 f) 65536) : ∃ r how good num : Int32, hp_in num 65536 ∧ f_X4_makeSmall (38 + f) p pt S = some (r, hp_H pt S (M 116 f) (M 117 f) (hp_mk kd b at_) num (M 119 f + num * M 118 f) ((num + M 120 f) &&& 65535)) ∧ f_X7_comeSmall (nI f) (nI kd) (nI at_) M = f_X7_comeSmall_259 (nI f) num how good (hp_F M (M 116 f) (M 117 f) (hp_mk kd b at_) num (M 119 f + num * M 118 f) ((num + M 120 f) &&& 65535)) ∧ ((r = 0 ∧ good = 0) ∨ (r = 1 ∧ good = 1 ∧ how = 1) ∨ (r = 2 ∧ good = 1 ∧ how = 2)) := by
  have hp := hPK.1
  have hl := hPK.2.1
  have F1 := fun (num : Int32) (rn : hp_in num 65536) => hp_fitsB hf hpt hPK ha hk3 hkd hl2 x0 x1 x2 x3 x4 r0 rn
  have hHp : ∀ a t m n ti id, hp_H pt S a t m n ti id p = S p := fun _ _ _ _ _ _ => hp_H_o (by omega)
  have hHq : ∀ a t m n ti id, hp_H pt S a t m n ti id (38 + f) = S (38 + f) := fun _ _ _ _ _ _ => hp_H_o (by omega)
  have hHx : ∀ a t m n ti id, hp_H pt S a t m n ti id (42 + f) = S (42 + f) := fun _ _ _ _ _ _ => hp_H_o (by omega)
  have hPKH : ∀ a t m n ti id, hp_PK p l b (hp_H pt S a t m n ti id) := fun a t m n ti id => hp_PK_o hPK (by rw [hHp]) (hp_H_o (by omega))
  have F2 : ∀ (a t m n ti id num : Int32), hp_in num 65536 → ∃ r : Int32, (r = 0 ∨ r = 1) ∧ f_X4_fits (38 + f) p pt num (hp_H pt S a t m n ti id) = some (r, hp_H pt S (M 116 f) (M 117 f) (hp_mk kd b at_) num (M 119 f + num * M 118 f) ((num + M 120 f) &&& 65535)) ∧ f_X7_fits (nI f) (nI kd) num (hp_mk kd b at_) (b (l - 1) &&& hp_ks kd) (hp_F M a t m n ti id) = some (r, hp_F M (M 116 f) (M 117 f) (hp_mk kd b at_) num (M 119 f + num * M 118 f) ((num + M 120 f) &&& 65535)) := by
    intro a t m n ti id num rn
    have e116 : hp_F M a t m n ti id 116 = M 116 := hp_F_o (by decide)
    have e117 : hp_F M a t m n ti id 117 = M 117 := hp_F_o (by decide)
    have e118 : hp_F M a t m n ti id 118 = M 118 := hp_F_o (by decide)
    have e119 : hp_F M a t m n ti id 119 = M 119 := hp_F_o (by decide)
    have e120 : hp_F M a t m n ti id 120 = M 120 := hp_F_o (by decide)
    have h := hp_fitsB (M := hp_F M a t m n ti id) hf hpt (hPKH a t m n ti id) (by rw [hHp]; exact ha) (by rw [hHp]; exact hk3) hkd hl2 (by rw [hHx, e116]; exact x0) (by rw [hHx, e117]; exact x1) (by rw [hHx, e118]; exact x2) (by rw [hHx, e119]; exact x3) (by rw [hHx, e120]; exact x4) (by rw [e116]; exact r0) rn
    rw [e116, e117, e118, e119, e120, hp_H_H, hp_F_F] at h
    exact h
  have x121 : ∀ a t m n ti id, hp_F M a t m n ti id 122 = M 122 := fun _ _ _ _ _ _ => hp_F_o (by decide)
  have s3 : ∀ kd, kd < 3 → hs_sv 3 kd = hp_lb kd := by decide +kernel
  obtain ⟨k1, _, _, _⟩ := hp_bkE hkd M
  obtain ⟨g1, o1, c1, m1⟩ := F1 (hp_nr (M 121 f) kd (hp_lw kd b at_)) (hp_nr_in _ _ _)
  rw [hp_m154 hkd hm hl hl2 hB]
  unfold f_X4_makeSmall f_X4_makeSmall_0 f_X4_makeSmall_66 f_X4_makeSmall_71 f_X4_makeSmall_83 f_X7_comeSmall_154
  rw [q2, hp_cNr hPK ha hk3 hkd hl2, hp_b2, c1, hp_b2, hp_ix (show f < hs_N 121 from hf), nI_clamp (show f < 2 ^ 31 by omega), hp_mNr hkd, hp_b2, m1, hp_b2]
  by_cases w1 : g1 = 0
  · rw [if_pos w1, if_pos w1, hHp, hk3, hp_l, hp_ix (show kd < hs_sn 3 from hkd), nI_clamp (show kd < 2 ^ 31 by omega), s3 kd hkd, hp_l]
    obtain ⟨_, bt, k2, k3⟩ := hp_bkE hkd (hp_F M (M 116 f) (M 117 f) (hp_mk kd b at_) (hp_nr (M 121 f) kd (hp_lw kd b at_)) (M 119 f + hp_nr (M 121 f) kd (hp_lw kd b at_) * M 118 f) ((hp_nr (M 121 f) kd (hp_lw kd b at_) + M 120 f) &&& 65535))
    rw [k2, hp_b2, k3, ← Int32.add_assoc, hp_l]
    obtain ⟨g2, o2, c2, m2⟩ := F2 (M 116 f) (M 117 f) (hp_mk kd b at_) (hp_nr (M 121 f) kd (hp_lw kd b at_)) (M 119 f + hp_nr (M 121 f) kd (hp_lw kd b at_) * M 118 f) ((hp_nr (M 121 f) kd (hp_lw kd b at_) + M 120 f) &&& 65535) ((hp_nr (M 121 f) kd (hp_lw kd b at_) + hp_lb kd + 1) &&& 65535) (pk_andE _ 16 rfl)
    rw [c2, hp_b2, m2, hp_b2]
    unfold f_X7_comeSmall_225
    by_cases w2 : g2 = 0
    · rw [if_pos w2, if_pos w2, hHq, q3, hp_cNr (hPKH _ _ _ _ _ _) (by rw [hHp]; exact ha) (by rw [hHp]; exact hk3) hkd hl2, hp_b2, hp_ix (show f < hs_N 122 from hf), nI_clamp (show f < 2 ^ 31 by omega), x121, hp_mNr hkd, hp_b2]
      obtain ⟨g3, o3, c3, m3⟩ := F2 (M 116 f) (M 117 f) (hp_mk kd b at_) ((hp_nr (M 121 f) kd (hp_lw kd b at_) + hp_lb kd + 1) &&& 65535) (M 119 f + ((hp_nr (M 121 f) kd (hp_lw kd b at_) + hp_lb kd + 1) &&& 65535) * M 118 f) ((((hp_nr (M 121 f) kd (hp_lw kd b at_) + hp_lb kd + 1) &&& 65535) + M 120 f) &&& 65535) (hp_nr (M 122 f) kd (hp_lw kd b at_)) (hp_nr_in _ _ _)
      rw [c3, hp_b2, m3, hp_b2]
      by_cases w3 : g3 = 0
      · rw [if_pos w3, if_pos rfl]
        exact ⟨0, 2, g3, _, hp_nr_in _ _ _, rfl, rfl, Or.inl ⟨rfl, w3⟩⟩
      · rw [if_neg w3, if_neg (by decide)]
        exact ⟨2, 2, g3, _, hp_nr_in _ _ _, rfl, rfl, Or.inr (Or.inr ⟨rfl, o3.resolve_left w3, rfl⟩)⟩
    · rw [if_neg w2, if_neg w2, if_neg (by decide)]
      exact ⟨2, 2, g2, _, pk_andE _ 16 rfl, rfl, rfl, Or.inr (Or.inr ⟨rfl, o2.resolve_left w2, rfl⟩)⟩
  · rw [if_neg w1, if_neg w1]
    unfold f_X7_comeSmall_225
    rw [if_neg w1]
    exact ⟨1, 1, g1, _, hp_nr_in _ _ _, rfl, rfl, Or.inr (Or.inl ⟨rfl, o1.resolve_left w1, rfl⟩)⟩
/-! what a great packet tells -/
def hp_tw (b : Nat → Int32) (i : Nat) : Int32 := b i * 256 + b (i + 1)
theorem hp_tw_in {b : Nat → Int32} {i : Nat} (h1 : hp_in (b i) 256) (h2 : hp_in (b (i + 1)) 256) : hp_in (hp_tw b i) 65536 := by
  obtain ⟨x, hx, ex⟩ := h1
  obtain ⟨y, hy, ey⟩ := h2
  refine ⟨x * 256 + y, by omega, ?_⟩
  unfold hp_tw
  rw [ex, ey, ← nI_add, ← pk_mul]
  rfl
theorem hp_time {x y : Int32} (hx : hp_in x 65536) (hy : hp_in y 65536) : x * 65536 + y = (x <<< ((16 : Int32) &&& 31)) ||| y := by
  obtain ⟨a, ha, rfl⟩ := hx
  obtain ⟨c, hc, rfl⟩ := hy
  have e1 : nI a <<< ((16 : Int32) &&& 31) = nI (a * 2 ^ 16) := pk_shlN _ 16 (by decide) (by omega)
  have e2 : nI a * 65536 = nI (a * 65536) := pk_mul a 65536
  rw [e1, e2, nI_add]
  apply Int32.toBitVec_inj.mp
  apply BitVec.eq_of_toNat_eq
  rw [Int32.toBitVec_or, BitVec.toNat_or, pk_tn (by omega), pk_tn (by omega), pk_tn (by omega)]
  have h := Nat.two_pow_add_eq_or_of_lt (b := c) (i := 16) (by omega) a
  rw [show a * 2 ^ 16 = 2 ^ 16 * a by omega, ← h]
theorem hp_cMv {p pt l at_ kd o : Nat} {b : Nat → Int32} {S : hs_M} (hpt : pt = 2 ∨ pt = 3) (hPK : hp_PK p l b S) (ha : S p 4 = nI at_) (hk3 : S p 3 = nI kd) (hkd : (kd = 3 ∧ o = 1) ∨ (kd = 4 ∧ o = 6)) (hl2 : l = at_ + o + 10) : f_X3_readMoving p pt S = some (hs_U (hs_U (hs_U (hs_U S pt 2 (if b (at_ + o) = 0 then 0 else 1)) pt 3 (hp_tw b (at_ + (o + 1)))) pt 4 (hp_tw b (at_ + (o + 3)) * 65536 + hp_tw b (at_ + (o + 5)))) pt 5 (hp_tw b (at_ + (o + 7)))) := by
  have hp := hPK.1
  have hU : ∀ (S : hs_M) (k : Nat) (x : Int32), hp_PK p l b S → hp_PK p l b (hs_U S pt k x) := fun S k x h => hp_PK_o h (hp_U2 (by omega)) (by funext j; exact hp_U2 (by omega))
  have hA : ∀ (S : hs_M) (k : Nat) (x : Int32), S p 4 = nI at_ → hs_U S pt k x p 4 = nI at_ := fun S k x h => (hp_U2 (by omega)).trans h
  have h14 : f_X3_readMoving p pt S = f_X3_readMoving_14 p pt (nI o) S := by
    unfold f_X3_readMoving f_X3_readMoving_0
    rw [hk3]
    rcases hkd with ⟨rfl, rfl⟩ | ⟨rfl, rfl⟩
    · rw [if_neg (by decide)]
      rfl
    · rw [if_pos (by rfl)]
      rfl
  have h29 : ∀ y : Int32, y = 0 ∨ y = 1 → f_X3_readMoving_29 p pt (nI o) pt y S = some (hs_U (hs_U (hs_U (hs_U S pt 2 y) pt 3 (hp_tw b (at_ + (o + 1)))) pt 4 (hp_tw b (at_ + (o + 3)) * 65536 + hp_tw b (at_ + (o + 5)))) pt 5 (hp_tw b (at_ + (o + 7)))) := by
    intro y hy
    have o1 : nI o + (1 : Int32) = nI (o + 1) := nI_add o 1
    have o3 : nI o + (3 : Int32) = nI (o + 3) := nI_add o 3
    have o5 : nI o + (5 : Int32) = nI (o + 5) := nI_add o 5
    have o7 : nI o + (7 : Int32) = nI (o + 7) := nI_add o 7
    unfold f_X3_readMoving_29
    rw [hp_bg hy, hp_l, o1, o3, o5, o7, hp_own2 (hU _ _ _ hPK) (hA _ _ _ ha) (by omega), hp_b2, hp_l, hp_own2 (hU _ _ _ (hU _ _ _ hPK)) (hA _ _ _ (hA _ _ _ ha)) (by omega), hp_b2, hp_own2 (hU _ _ _ (hU _ _ _ hPK)) (hA _ _ _ (hA _ _ _ ha)) (by omega), hp_b2, hp_l, hp_own2 (hU _ _ _ (hU _ _ _ (hU _ _ _ hPK))) (hA _ _ _ (hA _ _ _ (hA _ _ _ ha))) (by omega), hp_b2, hp_l]
    rfl
  rw [h14]
  unfold f_X3_readMoving_14
  rw [hp_own hPK ha (by omega), hp_b2]
  by_cases c : b (at_ + o) = 0
  · rw [if_pos c, if_pos c]
    exact h29 0 (Or.inl rfl)
  · rw [if_neg c, if_neg c]
    exact h29 1 (Or.inr rfl)
