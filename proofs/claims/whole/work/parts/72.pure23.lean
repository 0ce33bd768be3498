/-! ===== delivering, both sides ===== -/
theorem hp_delB {n p l : Nat} {b : Nat → Int32} {C M : hs_M} (hR : hp_R n C M) (h : hp_PK p l b C) (hm : hp_MK l b M) (l1 : 1 ≤ l) (hB : ∀ i, i < l → hp_in (b i) 256) (ht : M 100 0 = 0) : ∃ (C' : hs_M) (code : Nat) (cv v : Int32) (C2 M2 : hs_M), f_X3_read p C = some C' ∧ hp_cD p C' = some ((code, cv), C2) ∧ hp_tl M = some (v, M2) ∧ ((code = 0 ∧ M2 100 0 = 0 ∧ cv = v) ∨ (code = 2 ∧ M2 100 0 = 2) ∨ (code = 3 ∧ M2 100 0 = 3) ∨ (code = 4 ∧ M2 100 0 = 4)) ∧ hp_R n C2 M2 := by
  obtain ⟨at_, f, kv, C', hf, r1, r2, r3, r4, r5, r6, hcase⟩ := hp_readB h hm l1 hB
  have hp := h.1
  have x1 : hs_N 46 = 11 := rfl
  have x2 : hs_N 125 = 11 := rfl
  have y8 : ∀ {ρ : Type} (G : Option ρ), hs_ix (8 : Int32) 11 G = G := fun G => hp_ix (c := 8) (by decide)
  have y9 : ∀ {ρ : Type} (G : Option ρ), hs_ix (9 : Int32) 11 G = G := fun G => hp_ix (c := 9) (by decide)
  have y10 : ∀ {ρ : Type} (G : Option ρ), hs_ix (10 : Int32) 11 G = G := fun G => hp_ix (c := 10) (by decide)
  have y6 : ∀ {ρ : Type} (G : Option ρ), hs_ix (6 : Int32) 11 G = G := fun G => hp_ix (c := 6) (by decide)
  have y7 : ∀ {ρ : Type} (G : Option ρ), hs_ix (7 : Int32) 11 G = G := fun G => hp_ix (c := 7) (by decide)
  have t8 : (8 : Int32).toNatClampNeg = 8 := rfl
  have t9 : (9 : Int32).toNatClampNeg = 9 := rfl
  have t10 : (10 : Int32).toNatClampNeg = 10 := rfl
  have t6 : (6 : Int32).toNatClampNeg = 6 := rfl
  have t7 : (7 : Int32).toNatClampNeg = 7 := rfl
  have hRR : hp_RR f C' M := hp_RR_fr (hR.2.2.1 f hf) (r2 _ (by omega)) (r2 _ (by omega)) (fun _ _ _ => rfl)
  have hRC := hR.2.2.2.2.1
  obtain ⟨pl, pt, g1, g2, g3, g4⟩ := hR.2.2.2.2.2
  have c46 : C' 46 = C 46 := r2 46 (by omega)
  have c0 : C' 0 = C 0 := r2 0 (by omega)
  -- nothing but a count
  have cnt : ∀ (w : Nat) (x : Int32), w < 11 → hp_R n (hs_U C' 46 w (C' 46 w + 1)) (hs_U (hs_U M 125 w (M 125 w + 1)) 100 0 x) := by
    intro w x hw
    refine hp_R_del (f := f) hR (fun i i0 i2 i3 i4 i5 i6 i7 => ?_) (fun q q1 q2 => ?_) (fun i j i1 i2 i3 i4 i5 i6 => ?_) (fun b' b1 b2 => ?_) hf ?_ (fun j hj => ?_) ⟨pl, pt, g1, ?_, ?_, fun i hi => ?_⟩
    · rw [← r2 i (by omega)]
      funext j
      (repeat (first | rw [hp_U1] | rw [hp_U2 (by omega)] | rw [hp_U3 (by omega)]))
    · rw [hp_U2 (by omega)]
      by_cases hq : q = p
      · rw [hq, r3 1 (by decide) (by decide) (by decide)]
      · rw [r2 q hq]
    · (repeat (first | rw [hp_U1] | rw [hp_U2 (by omega)] | rw [hp_U3 (by omega)]))
    · (repeat (first | rw [hp_U1] | rw [hp_U2 (by omega)] | rw [hp_U3 (by omega)]))
    · refine hp_RR_fr hRR ?_ ?_ (fun i i1 i2 => ?_)
      · funext j; (repeat (first | rw [hp_U1] | rw [hp_U2 (by omega)] | rw [hp_U3 (by omega)]))
      · funext j; (repeat (first | rw [hp_U1] | rw [hp_U2 (by omega)] | rw [hp_U3 (by omega)]))
      · (repeat (first | rw [hp_U1] | rw [hp_U2 (by omega)] | rw [hp_U3 (by omega)]))
    · rw [hp_U2 (show (125 : Nat) ≠ 100 by decide)]
      by_cases hjw : j = w
      · rw [hjw, hp_U1, hp_U1, c46, hRC w hw]
      · rw [hp_U3 hjw, hp_U3 hjw, c46, hRC j hj]
    · rw [hp_U2 (by decide), c0]; exact g2
    · rw [hp_U2 (by decide), c0]; exact g3
    · have e : hs_U C' 46 w (C' 46 w + 1) pl = C pl := by
        rw [← r2 pl (by omega)]
        funext j
        exact hp_U2 (by omega)
      rw [e, hp_U2 (by decide), hp_U2 (by decide)]
      exact g4 i hi
  rcases hcase with ⟨k1, k2⟩ | ⟨kd, hk4, rfl, k1, k2, hl2, m3, m4⟩
  · refine ⟨C', 2, 0, 0, _, _, r1, ?_, ?_, Or.inr (Or.inl ⟨rfl, hp_U1⟩), cnt 8 2 (by decide)⟩
    · unfold hp_cD
      rw [k1, if_pos rfl, x1, y8, y8, t8, hp_l]
    · rw [r6]
      unfold f_X7_deliver_146
      rw [k2, hp_b2, if_neg (by decide), x2, y8, y8, t8, hp_l, hp_l]
  · obtain ⟨⟨a1, a2⟩, _⟩ := id hRR
    obtain ⟨u, u1, u2, u3, u4, u5⟩ := hp_use (at_ := at_) hf hk4 a1 a2 k2
    have hne : ¬ nI kd = (-1 : Int32) := fun w => by
      have := nI_pos (n := kd) (by omega)
      rw [w] at this
      exact this (by decide)
    rcases u1 with rfl | rfl
    · refine ⟨C', 3, 0, 0, _, _, r1, ?_, ?_, Or.inr (Or.inr (Or.inl ⟨rfl, hp_U1⟩)), cnt 9 3 (by decide)⟩
      · unfold hp_cD
        rw [k1, if_neg hne, r4, hp_l, hp_ix (show f < hs_N 37 from hf), nI_clamp (show f < 2 ^ 31 by omega), u2, hp_b2, if_pos rfl, x1, y9, y9, t9, hp_l]
      · rw [r6, u3 rfl]
        unfold f_X7_deliver_207
        rw [x2, y9, y9, t9, hp_l, hp_l]
    · have hpt : pt = 2 ∨ pt = 3 := by omega
      have hKt : hs_K pt = 1 := by rcases hpt with rfl | rfl <;> rfl
      have hKl : hs_K pl = 1 := by
        rcases (show pl = 2 ∨ pl = 3 by omega) with rfl | rfl <;> rfl
      have hPK : hp_PK p l b C' := hp_PK_o h (r3 1 (by decide) (by decide) (by decide)) (r2 (p + 9) (by omega))
      have htk : ∃ r C1 v M1, f_X4_take (38 + f) p pt C' = some (r, C1) ∧ f_X7_deliver_225 (nI at_) (nI f) (nI kd) M = some (v, M1) ∧ hp_TK f pt C' M r C1 v M1 := by
        by_cases hk3 : kd < 3
        · exact hp_takeS hf hpt hPK r5 k1 hk3 hl2 hm hB hRR (u5 rfl hk3)
        · exact hp_takeW hf hpt hPK r5 k1 (by omega) hl2 hm hB m3 m4 hRR
      obtain ⟨r, C1, v, M1, o1, o2, q1, q2, q3, q4⟩ := htk
      have s46 : C1 46 = C 46 := by rw [q1 46 (by omega) (by omega) (by omega), c46]
      have s0 : C1 0 = C 0 := by rw [q1 0 (by omega) (by omega) (by omega), c0]
      have sp2 : C1 p 2 = nI f := by rw [q1 p (by omega) (by omega) (by omega), r4]
      have hcD : hp_cD p C' = (if r = 0 then some ((4, 0), hs_U C1 46 10 (C1 46 10 + 1)) else hs_l (hs_U (hs_U (hs_U C1 0 5 (nI pt)) 0 6 (nI pl)) 46 6 (C1 46 6 + 1)) (fun S_22 => (if r = (2 : Int32) then some ((0, nI f + 4), hs_U S_22 46 7 (C1 46 7 + 1)) else some ((0, nI f), S_22)))) := by
        unfold hp_cD
        rw [k1, if_neg hne, r4, hp_l, hp_ix (show f < hs_N 37 from hf), nI_clamp (show f < 2 ^ 31 by omega), u2, hp_b2, if_neg (by decide), hp_l, c0, g3, nI_clamp (show pt < 2 ^ 31 by omega), hp_kg hKt, o1, hp_b2, x1, y10, y10, t10, hp_l]
        by_cases c : r = 0
        · rw [if_pos c, if_pos c]
        · rw [if_neg c, if_neg c]
          have hkt : f_X6_keepTrial C1 = some (hs_U (hs_U C1 0 5 (nI pt)) 0 6 (nI pl)) := by
            unfold f_X6_keepTrial f_X6_keepTrial_0
            rw [s0, g2, g3, nI_clamp (show pt < 2 ^ 31 by omega), nI_clamp (show pl < 2 ^ 31 by omega), hp_l, hp_kg hKl, hp_l, hp_kg hKt, hp_l, hp_l]
          have w1 : hs_U (hs_U C1 0 5 (nI pt)) 0 6 (nI pl) 46 6 = C1 46 6 := by (repeat (first | rw [hp_U1] | rw [hp_U2 (by omega)] | rw [hp_U3 (by omega)]))
          have w2 : hs_U (hs_U (hs_U C1 0 5 (nI pt)) 0 6 (nI pl)) 46 6 (C1 46 6 + 1) 46 7 = C1 46 7 := by (repeat (first | rw [hp_U1] | rw [hp_U2 (by omega)] | rw [hp_U3 (by omega)]))
          have w3 : hs_U (hs_U (hs_U C1 0 5 (nI pt)) 0 6 (nI pl)) 46 6 (C1 46 6 + 1) p 2 = nI f := by (repeat (first | rw [hp_U1] | rw [hp_U2 (by omega)] | rw [hp_U3 (by omega)])); exact sp2
          have w4 : hs_U (hs_U (hs_U (hs_U C1 0 5 (nI pt)) 0 6 (nI pl)) 46 6 (C1 46 6 + 1)) 46 7 (C1 46 7 + 1) p 2 = nI f := by (repeat (first | rw [hp_U1] | rw [hp_U2 (by omega)] | rw [hp_U3 (by omega)])); exact sp2
          rw [hkt, hp_b1, y6, y6, t6, w1, hp_l, hp_l, y7, y7, t7, w2, w3, hp_l, w4]
      have mem : ∀ i j, i ≠ 100 → i ≠ 124 → i ≠ 125 → i ≠ 126 → i ≠ 127 → ¬ (115 ≤ i ∧ i ≤ 123 ∧ j = f) → M1 i j = M i j := fun i j i1 i2 i3 i4 _ i6 => q2 i j i2 i3 i4 (Or.inl i1) i6
      have mem1 : ∀ b', 1 ≤ b' → b' ≠ 31 → M1 100 b' = M 100 b' := fun b' b1 _ => q2 100 b' (by decide) (by decide) (by decide) (Or.inr (by omega)) (by omega)
      have ecf : ∀ (X : hs_M), (∀ i, i ≠ 0 → i ≠ 46 → X i = C1 i) → (∀ i, i ≠ 0 → i ≠ 2 → i ≠ 3 → i ≠ 46 → i ≠ 38 + f → i ≠ 42 + f → ¬ (6 ≤ i ∧ i < 15) → X i = C i) ∧ (∀ q, 6 ≤ q → q < 15 → X q 1 = C q 1) ∧ hp_RR f X M1 := by
        intro X hX
        refine ⟨fun i i0 i2 i3 i4 i5 i6 i7 => ?_, fun q q1' q2' => ?_, hp_RR_fr q3 (hX _ (by omega) (by omega)) (hX _ (by omega) (by omega)) (fun _ _ _ => rfl)⟩
        · rw [hX i i0 i4, q1 i (by omega) i5 i6, r2 i (by omega)]
        · rw [hX q (by omega) (by omega), q1 q (by omega) (by omega) (by omega)]
          by_cases hq : q = p
          · rw [hq, r3 1 (by decide) (by decide) (by decide)]
          · rw [r2 q hq]
      rcases q4 with ⟨rfl, rfl, v3, v4, v5⟩ | ⟨rfl, rfl, v3, v4, v5⟩ | ⟨rfl, rfl, v3, v4, v5⟩
      · rw [if_pos rfl] at hcD
        refine ⟨C', 4, 0, 0, _, M1, r1, hcD, by rw [r6, u4 rfl, o2], Or.inr (Or.inr (Or.inr ⟨rfl, v3⟩)), ?_⟩
        obtain ⟨e1, e2, e3⟩ := ecf (hs_U C1 46 10 (C1 46 10 + 1)) (fun i _ i2 => by funext j; exact hp_U2 i2)
        refine hp_R_del hR e1 e2 mem mem1 hf e3 (fun j hj => ?_) ⟨pl, pt, g1, ?_, ?_, fun i hi => ?_⟩
        · rw [v4 j]
          by_cases hj10 : j = 10
          · rw [hj10, hp_U1, if_pos rfl, s46, hRC 10 (by decide)]
          · rw [hp_U3 hj10, if_neg hj10, s46, hRC j hj]
        · rw [hp_U2 (by decide), s0]; exact g2
        · rw [hp_U2 (by decide), s0]; exact g3
        · have e : hs_U C1 46 10 (C1 46 10 + 1) pl = C pl := by
            rw [← r2 pl (by omega), ← q1 pl (by omega) (by omega) (by omega)]
            funext j
            exact hp_U2 (by omega)
          rw [e, v5]
          exact g4 i hi
      · rw [if_neg (by decide), hp_l, if_neg (by decide)] at hcD
        refine ⟨C', 0, nI f, nI f, _, M1, r1, hcD, by rw [r6, u4 rfl, o2], Or.inl ⟨rfl, by rw [v3, ht], rfl⟩, ?_⟩
        have hX : ∀ i, i ≠ 0 → i ≠ 46 → hs_U (hs_U (hs_U C1 0 5 (nI pt)) 0 6 (nI pl)) 46 6 (C1 46 6 + 1) i = C1 i := fun i i1 i2 => by funext j; (repeat (first | rw [hp_U1] | rw [hp_U2 (by omega)] | rw [hp_U3 (by omega)]))
        obtain ⟨e1, e2, e3⟩ := ecf _ hX
        refine hp_R_del hR e1 e2 mem mem1 hf e3 (fun j hj => ?_) ⟨pt, pl, by omega, ?_, ?_, fun i hi => ?_⟩
        · rw [v4 j]
          by_cases hj6 : j = 6
          · rw [hj6, hp_U1, if_pos rfl, s46, hRC 6 (by decide)]
          · rw [hp_U3 hj6, if_neg hj6, hp_U2 (by decide), hp_U2 (by decide), s46, hRC j hj]
        · (repeat (first | rw [hp_U1] | rw [hp_U2 (by omega)] | rw [hp_U3 (by omega)]))
        · (repeat (first | rw [hp_U1] | rw [hp_U2 (by omega)] | rw [hp_U3 (by omega)]))
        · rw [hX pt (by omega) (by omega)]
          exact v5 i hi
      · rw [if_neg (by decide), hp_l, if_pos rfl] at hcD
        refine ⟨C', 0, nI f + 4, nI f + 4, _, M1, r1, hcD, by rw [r6, u4 rfl, o2], Or.inl ⟨rfl, by rw [v3, ht], rfl⟩, ?_⟩
        have hX : ∀ i, i ≠ 0 → i ≠ 46 → hs_U (hs_U (hs_U (hs_U C1 0 5 (nI pt)) 0 6 (nI pl)) 46 6 (C1 46 6 + 1)) 46 7 (C1 46 7 + 1) i = C1 i := fun i i1 i2 => by funext j; (repeat (first | rw [hp_U1] | rw [hp_U2 (by omega)] | rw [hp_U3 (by omega)]))
        obtain ⟨e1, e2, e3⟩ := ecf _ hX
        refine hp_R_del hR e1 e2 mem mem1 hf e3 (fun j hj => ?_) ⟨pt, pl, by omega, ?_, ?_, fun i hi => ?_⟩
        · rw [v4 j]
          by_cases hj7 : j = 7
          · rw [hj7, hp_U1, if_pos rfl, s46, hRC 7 (by decide)]
          · rw [hp_U3 hj7, if_neg hj7]
            by_cases hj6 : j = 6
            · rw [hj6, hp_U1, if_pos rfl, s46, hRC 6 (by decide)]
            · rw [hp_U3 hj6, if_neg hj6, hp_U2 (by decide), hp_U2 (by decide), s46, hRC j hj]
        · (repeat (first | rw [hp_U1] | rw [hp_U2 (by omega)] | rw [hp_U3 (by omega)]))
        · (repeat (first | rw [hp_U1] | rw [hp_U2 (by omega)] | rw [hp_U3 (by omega)]))
        · rw [hX pt (by omega) (by omega)]
          exact v5 i hi
theorem hp_sim_deliver (n : Nat) (a0 : Int32) : hs_sim2 (hp_R n) (hp_R (n + 1)) (f_L_deliver a0) (f_X7_deliver a0) := by
  intro Sc Sm hR
  obtain ⟨np, pr, hL⟩ := hR.2.2.2.1
  obtain ⟨hnp, l1, l2, l3, l4, l5⟩ := id hL
  rcases hp_pkt hnp a0 l1 l2 with ⟨k, hk, rfl, hc, hm⟩ | ⟨hc, hm⟩
  · obtain ⟨l, p1, p2, p3, p4, p5⟩ := l5 k hk
    have hpk := l3 k (by omega)
    obtain ⟨S3, s1, s2, s3⟩ := hp_m38 (show k < 8 by omega) p2 l (39 - l) 0 (hs_U (hs_U Sm 100 0 0) 100 31 (nI l)) rfl hp_U1
    rw [show 39 - l + l + 1 = 40 by omega] at s1
    have hR3 : hp_R n Sc S3 := hp_R_fr hR (fun _ _ _ => rfl) (fun _ _ => rfl) (fun i b i1 i2 i3 => by rw [s2 i b i3, hp_U2 i1, hp_U2 i1]) (fun b b1 b2 => by rw [s2 100 b (by decide), hp_U3 b2, hp_U3 (by omega)])
    have hL3 : hp_RL np pr Sc S3 := hp_RL_fr hL rfl rfl (fun _ _ _ => rfl) (fun _ _ _ => rfl) (by rw [s2 100 16 (by decide), hp_U3 (by decide), hp_U3 (by decide)]) (fun b => by rw [s2 113 b (by decide), hp_U2 (by decide), hp_U2 (by decide)]) (fun b => by rw [s2 114 b (by decide), hp_U2 (by decide), hp_U2 (by decide)])
    obtain ⟨C, M, o1, o2, o3, o4, o5⟩ := hp_off hL3 hk
    have hRM : hp_R n C M := hp_R_line hR3 o4 o5 ⟨_, _, o3⟩
    have hPK : hp_PK (pr k) l (fun i => Sm 114 (20 * k + i)) C := ⟨hpk.1, p2, by rw [o4 _ (by omega) (by omega)]; exact p3, fun i hi => by rw [o4 _ (by omega) (by omega)]; exact (p5 i hi).1⟩
    have hMK : hp_MK l (fun i => Sm 114 (20 * k + i)) M := ⟨by rw [o5 100 31 (by decide) (by decide) (by decide), s2 100 31 (by decide), hp_U1], fun i hi => by rw [o5 127 i (by decide) (by decide) (by omega), s3 i, if_pos (by omega), hp_U2 (by decide), hp_U2 (by decide)]⟩
    have ht : M 100 0 = 0 := by rw [o5 100 0 (by decide) (by decide) (by decide), s2 100 0 (by decide), hp_U3 (by decide), hp_U1]
    obtain ⟨C', code, cv, v, C2, M2, d1, d2, d3, d4, d5⟩ := hp_delB hRM hPK hMK p1 (fun i hi => (p5 i hi).2) ht
    have hC : f_X6_deliver (nI k) Sc = some ((code, cv), C2) := by
      rw [hp_cDe, hc, hp_b2, if_pos rfl, o1, hp_b2, hp_kg (hp_K3 hpk.1), d1, hp_b1, d2]
    have hM : f_X7_deliver (nI k) Sm = some (v, M2) := by
      unfold f_X7_deliver f_X7_deliver_0 f_X7_deliver_14
      rw [hm, hp_b2, if_pos rfl, hp_l, hp_U1, if_pos rfl, hp_ix (show k < hs_N 113 by show k < 8; omega), nI_clamp (show k < 2 ^ 31 by omega), hp_U2 (show (113 : Nat) ≠ 100 by decide), p4, hp_l]
      refine s1.trans ?_
      unfold hp_E
      rw [o2, hp_b1, d3]
    have hLc : f_L_deliver (nI k) Sc = (if code = 0 then some ((0 : Int32), hs_U C2 47 0 cv) else if code = 1 then some ((1 : Int32), C2) else if code = 2 then some ((2 : Int32), C2) else if code = 3 then some ((3 : Int32), C2) else if code = 4 then some ((4 : Int32), C2) else none) := by
      unfold f_L_deliver
      rw [hC]
      rfl
    rcases d4 with ⟨rfl, w1, rfl⟩ | ⟨rfl, w1⟩ | ⟨rfl, w1⟩ | ⟨rfl, w1⟩
    · exact hp_x2 0 cv _ M2 hLc hM w1 (fun _ => hp_U1) (hp_R_up (hp_R_v d5 _))
    · exact hp_x2 2 v C2 M2 hLc hM w1 (fun w => absurd w (by decide)) (hp_R_up d5)
    · exact hp_x2 3 v C2 M2 hLc hM w1 (fun w => absurd w (by decide)) (hp_R_up d5)
    · exact hp_x2 4 v C2 M2 hLc hM w1 (fun w => absurd w (by decide)) (hp_R_up d5)
  · refine hp_x2 1 0 Sc (hs_U Sm 100 0 1) ?_ ?_ hp_U1 (fun w => absurd w (by decide)) (hp_R_up (hp_R_t hR 1))
    · unfold f_L_deliver
      rw [hp_cDe, hc, hp_b2, if_neg (by decide)]
      rfl
    · unfold f_X7_deliver f_X7_deliver_0 f_X7_deliver_14
      rw [hm, hp_b2, if_neg (by decide), hp_l, hp_U1, if_neg (by decide)]
/-! ===== the whole ===== -/
theorem hp_Sim (t : Nat) (ht : t < 64) : hs_Sim (hp_R t) (hp_R (t + 1)) := ⟨fun _ _ h => hp_R_up h, hp_sim_stride t, hp_sim_head t, hp_sim_send (by omega), hp_sim_line t, hp_sim_size t, hp_sim_byteAt t, hp_sim_spoil t, hp_sim_lose t, hp_sim_deliver t, hp_sim_made t, hp_sim_sender t, hp_sim_receiver t, hp_sim_count t⟩
theorem hp_R0 : hp_R 0 hs_S0 hs_S1 := by
  have z : ∀ i k, i ≠ 0 → i ≠ 5 → hs_S0 i k = 0 := fun i k h1 h2 => by
    unfold hs_S0
    rw [if_neg h1, if_neg h2]
  have i0 : ∀ n, 0 < n → hp_in 0 n := fun n hn => ⟨0, hn, rfl⟩
  refine ⟨⟨⟨z _ _ (by decide) (by decide), i0 _ (by decide)⟩, ⟨z _ _ (by decide) (by decide), i0 _ (by decide)⟩, z _ _ (by decide) (by decide)⟩, fun f hf => ⟨⟨z _ _ (by omega) (by omega), i0 _ (by decide)⟩, ⟨z _ _ (by omega) (by omega), i0 _ (by decide)⟩, z _ _ (by omega) (by omega), z _ _ (by omega) (by omega), ⟨z _ _ (by omega) (by omega), Or.inl rfl⟩, ⟨z _ _ (by omega) (by omega), z _ _ (by omega) (by omega), z _ _ (by omega) (by omega), z _ _ (by omega) (by omega), z _ _ (by omega) (by omega)⟩, ⟨0, by decide, z _ _ (by omega) (by omega), rfl, fun j hj => by omega⟩⟩, fun f hf => ⟨⟨z _ _ (by omega) (by omega), i0 _ (by decide)⟩, z _ _ (by omega) (by omega), z _ _ (by omega) (by omega), z _ _ (by omega) (by omega), ⟨z _ _ (by omega) (by omega), i0 _ (by decide)⟩, z _ _ (by omega) (by omega), z _ _ (by omega) (by omega), z _ _ (by omega) (by omega), z _ _ (by omega) (by omega)⟩, ⟨0, fun j => 6 + j, by decide, z _ _ (by decide) (by decide), rfl, fun j hj => ⟨⟨Nat.le_add_right 6 j, show 6 + j < 15 by omega⟩, ?_⟩, fun i j hi hj e => Nat.add_left_cancel (show 6 + i = 6 + j from e), fun k hk => by omega⟩, fun j hj => z _ _ (by decide) (by decide), ⟨2, 3, Or.inl ⟨rfl, rfl⟩, rfl, rfl, fun i hi => ?_⟩⟩
  · unfold hs_S0
    rw [if_neg (by decide), if_pos rfl]
  · have e : hp_part (hs_S0 2) i = hp_part (fun _ => 0) i := hp_part_c (fun k hk => z 2 k (by decide) (by decide)) i
    rw [e]
    have key : ∀ i, i < 11 → hp_part (fun _ => 0) i = 0 := by decide +kernel
    exact key i hi
