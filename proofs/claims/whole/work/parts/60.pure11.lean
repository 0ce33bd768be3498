/-! ===== sending, both sides ===== -/
theorem hp_getD_in {bs : List Int32} {N : Nat} (h : ∀ x ∈ bs, hp_in x N) {i : Nat} (hi : i < bs.length) : hp_in (bs.getD i 0) N := by
  rw [List.getD_eq_getElem?_getD, List.getElem?_eq_getElem hi]
  exact h _ (List.getElem_mem hi)
theorem hp_sendB {n f : Nat} (hf : f < 4) (hn : n ≤ 1000) {Sc Sm : hs_M} (hR : hp_R n Sc Sm) (ht : Sm 100 0 = 0) (r3 : hp_in (Sc 1 3) 65536) (r5 : hp_in (Sc 1 5) 65536) : ∃ (v : Int32) (C M : hs_M), (hs_b2 (f_X5_chooseKind (25 + f) 1 Sc) (fun r_16 S_14 => hs_b2 (f_X2_rowBehind S_14) (fun r_19 S_17 => hs_kg r_19 3 (hs_b1 (f_X3_write r_19 (nI f) r_16 1 (S_17 (25 + f) 1) S_17) (fun S_21 => hs_b1 (f_X5_noteSent (25 + f) r_16 (Sc 1 3) S_21) (fun S_23 => hs_ix r_16 (hs_N 46) (hs_ix r_16 (hs_N 46) (hs_l (hs_U S_23 46 r_16.toNatClampNeg ((S_23 46 r_16.toNatClampNeg) + (1 : Int32))) (fun S_25 => hs_ix (5 : Int32) (hs_N 46) (hs_ix (5 : Int32) (hs_N 46) (hs_l (hs_U S_25 46 (5 : Int32).toNatClampNeg ((S_25 46 (5 : Int32).toNatClampNeg) + (S_25 r_19 1))) (fun S_26 => hs_b2 (f_X2_addRowBehind S_26) (fun r_29 S_27 => (if r_29 = 0 then f_X6_send_161 (r_16 + (8 : Int32)) S_27 else f_X6_send_161 r_16 S_27)))))))))))))) = some ((0, v), C) ∧ hp_M35 (nI f) (Sc 1 3) (Sc 1 4) (Sc 1 5) Sm = some (v, M) ∧ M 100 0 = 0 ∧ hp_R (n + 1) C M := by
  obtain ⟨⟨⟨a1, a2⟩, ⟨a3, a4⟩, a5⟩, hRS, hRR, ⟨np, pr, hnp, l1, l2, l3, l4, l5⟩, hRC, hRM⟩ := hR
  obtain ⟨k, c1, m1, k4, A1, A2, A3, A4, A5⟩ := hp_sendA hf hn (hRS f hf) a1 a3 a5 ht
  have q69 := (l3 np (by omega)).1
  generalize hq : pr np = q at q69
  have e1 : c1 1 = Sc 1 := A4 1 (by omega) (by omega)
  have hrow : f_X2_rowBehind c1 = some (q, c1) := by
    unfold f_X2_rowBehind f_X2_rowBehind_0
    rw [A4 4 (by omega) (by omega), A4 5 (by omega) (by omega), hp_l, l1, hp_ix (show np < hs_N 5 by show np < 9; omega), nI_clamp (by omega), hp_l, (l3 np (by omega)).2, hq, nI_clamp (by omega), hp_kg (hp_K3 q69)]
  have hst := A3.1
  have hw := hp_cWrite q69 c1 hf k4 (c1 (25 + f) 1)
  rw [e1] at hw
  have b1 := hp_bts_len (f := f) k4 (Sc 1) (c1 (25 + f) 1)
  have b2 := hp_bts_in hf k4 (h := Sc 1) (st := c1 (25 + f) 1) (by rw [a1]; exact a2) (by rw [a3]; exact a4) r3 r5 (by rw [hst.1]; exact hst.2)
  -- the reference fills and writes
  have m100 : ∀ b, m1 100 b = Sm 100 b := fun b => A5 100 b (by omega)
  have hfill := hp_mFill m1 (m1 100 1) (m1 100 2) (m1 100 3) (Sc 1 3) (Sc 1 4) (Sc 1 5)
  have hF : ∀ i, i ≠ 126 → hp_F m1 (m1 100 1) (m1 100 2) (m1 100 3) (Sc 1 3) (Sc 1 4) (Sc 1 5) i = m1 i := by
    intro i hi
    funext b
    unfold hp_F
    rw [if_neg (fun q => hi q.1)]
  have h126 : ∀ i, i < 11 → hp_F m1 (m1 100 1) (m1 100 2) (m1 100 3) (Sc 1 3) (Sc 1 4) (Sc 1 5) 126 i = hp_part (Sc 1) i := by
    intro i hi
    unfold hp_F
    rw [if_pos ⟨rfl, hi⟩, m100, m100, m100, ← a1, ← a3, ← a5]
    exact (hp_parts (by rw [a1]; exact a2) r3 r5 (by decide) (by decide) (by decide) hi).symm
  generalize hp_F m1 (m1 100 1) (m1 100 2) (m1 100 3) (Sc 1 3) (Sc 1 4) (Sc 1 5) = mF at hfill hF h126
  obtain ⟨m2, w1, w2⟩ := hp_mWrite mF (Sc 1) (c1 (25 + f) 1) hf k4 h126 (by rw [hF 100 (by decide), m100]; exact a5.symm) (by rw [hF 100 (by decide), m100]; exact a3.symm) (by rw [hF 101 (by decide)]; exact hst.1.symm) (by rw [a3]; exact a4) r3 (by rw [hst.1]; exact hst.2)
  generalize hp_bts f k (Sc 1) (c1 (25 + f) 1) = bts at hw b1 b2 w2
  have m2e : ∀ i, i ≠ 126 → m2 i = m1 i := fun i hi => (w1 i hi).trans (hF i hi)
  have x1 : hs_N 125 = 11 := rfl
  have x2 : hs_N 46 = 11 := rfl
  -- its counts
  have hT : hp_T (nI f) (Sc 1 3) (Sc 1 4) (Sc 1 5) (nI k) m1 = (if nI k = (4 : Int32) then f_X7_send_362 (nI f) (Sc 1 3) (nI k) (nI f) (0 : Int32) (hs_U (hs_U (hp_V m2 bts) 125 k (Sm 125 k + 1)) 125 5 (Sm 125 5 + nI bts.length)) else hs_ix (nI f) (hs_N 110) (f_X7_send_362 (nI f) (Sc 1 3) (nI k) (nI f) (((hs_U (hs_U (hp_V m2 bts) 125 k (Sm 125 k + 1)) 125 5 (Sm 125 5 + nI bts.length)) 110 (nI f).toNatClampNeg) + (1 : Int32)) (hs_U (hs_U (hp_V m2 bts) 125 k (Sm 125 k + 1)) 125 5 (Sm 125 5 + nI bts.length)))) := by
    unfold hp_T
    rw [hfill, hp_b1, w2, hp_b1, x1, hp_ix (show k < 11 by omega), hp_ix (show k < 11 by omega), nI_clamp (show k < 2 ^ 31 by omega), hp_l]
    have v1 : hp_V m2 bts 125 k = Sm 125 k := by rw [hp_V_o (by decide) (by decide), m2e 125 (by decide)]; exact A5 125 k (by omega)
    have v2 : hs_U (hp_V m2 bts) 125 k (Sm 125 k + 1) 125 5 = Sm 125 5 := by
      rw [hp_U3 (by omega), hp_V_o (by decide) (by decide), m2e 125 (by decide)]; exact A5 125 5 (by omega)
    have v3 : hs_U (hp_V m2 bts) 125 k (Sm 125 k + 1) 100 31 = nI bts.length := by
      rw [hp_U2 (by decide), hp_V_l]
    rw [v1, v3]
    have v4 : (5 : Int32).toNatClampNeg = 5 := rfl
    rw [v4, v2]
    rfl
  generalize hm3 : hs_U (hs_U (hp_V m2 bts) 125 k (Sm 125 k + 1)) 125 5 (Sm 125 5 + nI bts.length) = m3 at hT
  have m3e : ∀ i j, i ≠ 100 → i ≠ 125 → i ≠ 126 → i ≠ 127 → m3 i j = m1 i j := by
    intro i j i1 i2 i3 i4
    rw [← hm3, hp_U2 i2, hp_U2 i2, hp_V_o i1 i4, m2e i i3]
  have m3c : ∀ j, m3 125 j = if j = 5 then Sm 125 5 + nI bts.length else if j = k then Sm 125 k + 1 else Sm 125 j := by
    intro j
    rw [← hm3]
    by_cases j5 : j = 5
    · rw [j5, hp_U1, if_pos rfl]
    · rw [hp_U3 j5, if_neg j5]
      by_cases jk : j = k
      · rw [jk, hp_U1, if_pos rfl]
      · rw [hp_U3 jk, if_neg jk, hp_V_o (by decide) (by decide), m2e 125 (by decide)]
        exact A5 125 j (by omega)
  have m3h : ∀ b, b ≠ 31 → m3 100 b = Sm 100 b := by
    intro b hb
    rw [← hm3, hp_U2 (by decide), hp_U2 (by decide), hp_V_f hb, m2e 100 (by decide), m100]
  have m3l : m3 100 31 = nI bts.length := by rw [← hm3, hp_U2 (by decide), hp_U2 (by decide), hp_V_l]
  have m3p : ∀ b, b < bts.length → m3 127 b = bts.getD b 0 := by
    intro b hb
    rw [← hm3, hp_U2 (by decide), hp_U2 (by decide), hp_V_b hb]
  -- both note
  have hRS2 : hp_RS n f (hp_W q c1 bts) m3 := hp_RS_fr A3 (hp_W_o (by omega) (by omega)) (hp_W_o (by omega) (by omega)) (hp_W_o (by omega) (by omega)) (fun i i1 i2 => m3e i f (by omega) (by omega) (by omega) (by omega)) (fun j _ => m3e _ _ (by omega) (by omega) (by omega) (by omega))
  obtain ⟨c4, m4, N1, N2, N3, N4, N5, N6, N7⟩ := hp_note hf k4 hn (Sc 1 3) hRS2
  rw [N2] at hT
  -- the class's counts
  have c4e : ∀ i, i ≠ 25 + f → i ≠ 29 + f → i ≠ 33 + f → i ≠ q → i ≠ q + 9 → c4 i = Sc i := by
    intro i i1 i2 i3 i4 i5
    rw [N4 i i1 i3, hp_W_o i4 i5, A4 i i1 i2]
  have c4q : ∀ b, c4 q b = hp_W q c1 bts q b := fun b => by rw [N4 q (by omega) (by omega)]
  have c4q9 : c4 (q + 9) = hp_W q c1 bts (q + 9) := N4 (q + 9) (by omega) (by omega)
  have m4a : ∀ i j, (i < 102 ∨ 112 < i) → i ≠ 100 → i ≠ 125 → i ≠ 126 → i ≠ 127 → m4 i j = Sm i j := by
    intro i j i1 i2 i3 i4 i5
    rw [N5 i j (by omega), m3e i j i2 i3 i4 i5]
    exact A5 i j (by omega)
  have m4b : ∀ i j, 101 ≤ i → i ≤ 111 → j ≠ f → m4 i j = Sm i j := by
    intro i j i1 i2 i3
    rw [N6 i j (by omega) i3, m3e i j (by omega) (by omega) (by omega) (by omega)]
    exact A5 i j (by omega)
  have m4d : ∀ j, (j < 4 * f ∨ 4 * f + 4 ≤ j) → m4 112 j = Sm 112 j := by
    intro j hj
    rw [N7 j hj, m3e 112 j (by omega) (by omega) (by omega) (by omega)]
    exact A5 112 j (by omega)
  have m4h : ∀ b, b ≠ 31 → m4 100 b = Sm 100 b := fun b hb => by rw [N5 100 b (by omega), m3h b hb]
  -- what both come to, whatever the line does
  have fin : ∀ (C M : hs_M), (∀ i, i ≠ 4 → i ≠ 46 → C i = c4 i) → (∀ j, C 46 j = if j = 5 then Sc 46 5 + nI bts.length else if j = k then Sc 46 k + 1 else Sc 46 j) → (∀ i j, i ≠ 113 → i ≠ 114 → (i ≠ 100 ∨ j ≠ 16) → M i j = m4 i j) → hp_RP C M → hp_R (n + 1) C M := by
    intro C M C1 C2 M1 hP
    refine ⟨⟨⟨?_, ?_⟩, ⟨?_, ?_⟩, ?_⟩, fun g hg => ?_, fun g hg => ?_, hP, fun j hj => ?_, ?_⟩
    · rw [C1 1 (by decide) (by decide), c4e 1 (by omega) (by omega) (by omega) (by omega) (by omega), M1 100 1 (by decide) (by decide) (by decide), m4h 1 (by decide)]; exact a1
    · rw [M1 100 1 (by decide) (by decide) (by decide), m4h 1 (by decide)]; exact a2
    · rw [C1 1 (by decide) (by decide), c4e 1 (by omega) (by omega) (by omega) (by omega) (by omega), M1 100 2 (by decide) (by decide) (by decide), m4h 2 (by decide)]; exact a3
    · rw [M1 100 2 (by decide) (by decide) (by decide), m4h 2 (by decide)]; exact a4
    · rw [C1 1 (by decide) (by decide), c4e 1 (by omega) (by omega) (by omega) (by omega) (by omega), M1 100 3 (by decide) (by decide) (by decide), m4h 3 (by decide)]; exact a5
    · by_cases hgf : g = f
      · subst hgf
        exact hp_RS_fr N3 (C1 _ (by omega) (by omega)) (C1 _ (by omega) (by omega)) (C1 _ (by omega) (by omega)) (fun i i1 i2 => M1 i g (by omega) (by omega) (by omega)) (fun j _ => M1 _ _ (by omega) (by omega) (by omega))
      · refine hp_RS_fr (hp_RS_up (hRS g hg)) ?_ ?_ ?_ (fun i i1 i2 => ?_) (fun j _ => ?_)
        · rw [C1 _ (by omega) (by omega), c4e _ (by omega) (by omega) (by omega) (by omega) (by omega)]
        · rw [C1 _ (by omega) (by omega), c4e _ (by omega) (by omega) (by omega) (by omega) (by omega)]
        · rw [C1 _ (by omega) (by omega), c4e _ (by omega) (by omega) (by omega) (by omega) (by omega)]
        · rw [M1 _ _ (by omega) (by omega) (by omega), m4b i g i1 i2 hgf]
        · rw [M1 _ _ (by omega) (by omega) (by omega), m4d _ (by omega)]
    · refine hp_RR_fr (hRR g hg) ?_ ?_ (fun i i1 i2 => ?_)
      · rw [C1 _ (by omega) (by omega), c4e _ (by omega) (by omega) (by omega) (by omega) (by omega)]
      · rw [C1 _ (by omega) (by omega), c4e _ (by omega) (by omega) (by omega) (by omega) (by omega)]
      · rw [M1 _ _ (by omega) (by omega) (by omega), m4a i g (by omega) (by omega) (by omega) (by omega) (by omega)]
    · rw [C2, M1 125 j (by decide) (by decide) (by omega), N5 125 j (by omega), m3c, hRC 5 (by decide), hRC k (by omega), hRC j hj]
    · obtain ⟨pl, pt, g1, g2, g3, g4⟩ := hRM
      refine ⟨pl, pt, g1, ?_, ?_, fun i hi => ?_⟩
      · rw [C1 0 (by decide) (by decide), c4e 0 (by omega) (by omega) (by omega) (by omega) (by omega)]; exact g2
      · rw [C1 0 (by decide) (by decide), c4e 0 (by omega) (by omega) (by omega) (by omega) (by omega)]; exact g3
      · rw [C1 pl (by omega) (by omega), c4e pl (by omega) (by omega) (by omega) (by omega) (by omega), M1 124 i (by decide) (by decide) (by omega), m4a 124 i (by omega) (by omega) (by omega) (by omega) (by omega)]; exact g4 i hi
  -- the class's way, up to the line
  have hc6 : ∀ j, hs_U (hs_U c4 46 k (Sc 46 k + 1)) 46 5 (Sc 46 5 + nI bts.length) 46 j = if j = 5 then Sc 46 5 + nI bts.length else if j = k then Sc 46 k + 1 else Sc 46 j := by
    intro j
    by_cases j5 : j = 5
    · rw [j5, hp_U1, if_pos rfl]
    · rw [hp_U3 j5, if_neg j5]
      by_cases jk : j = k
      · rw [jk, hp_U1, if_pos rfl]
      · rw [hp_U3 jk, if_neg jk, c4e 46 (by omega) (by omega) (by omega) (by omega) (by omega)]
  have c6e : ∀ i, i ≠ 46 → hs_U (hs_U c4 46 k (Sc 46 k + 1)) 46 5 (Sc 46 5 + nI bts.length) i = c4 i := by
    intro i hi
    funext b
    rw [hp_U2 hi, hp_U2 hi]
  have hcl : ∀ G : Int32 → hs_M → Option ((Nat × Int32) × hs_M), (hs_b2 (f_X5_chooseKind (25 + f) 1 Sc) (fun r_16 S_14 => hs_b2 (f_X2_rowBehind S_14) (fun r_19 S_17 => hs_kg r_19 3 (hs_b1 (f_X3_write r_19 (nI f) r_16 1 (S_17 (25 + f) 1) S_17) (fun S_21 => hs_b1 (f_X5_noteSent (25 + f) r_16 (Sc 1 3) S_21) (fun S_23 => hs_ix r_16 (hs_N 46) (hs_ix r_16 (hs_N 46) (hs_l (hs_U S_23 46 r_16.toNatClampNeg ((S_23 46 r_16.toNatClampNeg) + (1 : Int32))) (fun S_25 => hs_ix (5 : Int32) (hs_N 46) (hs_ix (5 : Int32) (hs_N 46) (hs_l (hs_U S_25 46 (5 : Int32).toNatClampNeg ((S_25 46 (5 : Int32).toNatClampNeg) + (S_25 r_19 1))) (fun S_26 => G r_16 S_26)))))))))) )) = G (nI k) (hs_U (hs_U c4 46 k (Sc 46 k + 1)) 46 5 (Sc 46 5 + nI bts.length)) := by
    intro G
    rw [A1, hp_b2, hrow, hp_b2, hp_kg (hp_K3 q69), hw, hp_b1, N1, hp_b1, x2, hp_ix (show k < 11 by omega), hp_ix (show k < 11 by omega), nI_clamp (show k < 2 ^ 31 by omega), hp_l]
    have v1 : c4 46 k = Sc 46 k := by rw [c4e 46 (by omega) (by omega) (by omega) (by omega) (by omega)]
    have v2 : hs_U c4 46 k (Sc 46 k + 1) 46 5 = Sc 46 5 := by
      rw [hp_U3 (by omega), c4e 46 (by omega) (by omega) (by omega) (by omega) (by omega)]
    have v3 : hs_U c4 46 k (Sc 46 k + 1) q 1 = nI bts.length := by
      rw [hp_U2 (by omega), c4q, hp_W_l]
    have v4 : (5 : Int32).toNatClampNeg = 5 := rfl
    rw [v1, v3, v4, v2]
    rfl
  rw [hcl (fun r_16 S_26 => hs_b2 (f_X2_addRowBehind S_26) (fun r_29 S_27 => (if r_29 = 0 then f_X6_send_161 (r_16 + (8 : Int32)) S_27 else f_X6_send_161 r_16 S_27))), A2, hT]
  have c64 : hs_U (hs_U c4 46 k (Sc 46 k + 1)) 46 5 (Sc 46 5 + nI bts.length) 4 1 = nI np := by
    rw [c6e 4 (by decide), c4e 4 (by omega) (by omega) (by omega) (by omega) (by omega)]; exact l1
  have m416 : m4 100 16 = nI np := by rw [m4h 16 (by decide)]; exact l2
  -- an older packet
  have hold : ∀ (C M : hs_M), (∀ i, i ≠ 4 → i ≠ 46 → C i = c4 i) → ∀ j, j < np → M 113 j = Sm 113 j → (∀ b, 20 * j ≤ b → b < 20 * j + 20 → M 114 b = Sm 114 b) → hp_RK (pr j) j C M := by
    intro C M C1 j hj M1 M2
    have hp := (l3 j (by omega)).1
    have hne : pr j ≠ q := fun w => by
      have := l4 j np (by omega) (by omega) (w.trans hq.symm)
      omega
    refine hp_RK_fr (l5 j hj) ?_ ?_ M1 M2
    · rw [C1 _ (by omega) (by omega), c4e _ (by omega) (by omega) (by omega) (by omega) (by omega)]
    · rw [C1 _ (by omega) (by omega), c4e _ (by omega) (by omega) (by omega) (by omega) (by omega)]
  unfold f_X2_addRowBehind f_X2_addRowBehind_0 f_X6_send_161 hp_T2
  rw [c64, m416]
  by_cases h8 : np = 8
  · subst h8
    rw [if_pos (show nI 8 = (8 : Int32) from rfl), if_pos (show nI 8 = (8 : Int32) from rfl), hp_bg0, hp_b2, if_pos rfl]
    refine ⟨nI k + 8, _, _, rfl, rfl, by rw [m4h 0 (by decide)]; exact ht, fin _ _ (fun i _ i2 => c6e i i2) hc6 (fun _ _ _ _ _ => rfl) ⟨8, pr, by decide, c64, m416, fun j hj => ⟨(l3 j hj).1, ?_⟩, l4, fun j hj => ?_⟩⟩
    · rw [c6e 5 (by decide), c4e 5 (by omega) (by omega) (by omega) (by omega) (by omega)]; exact (l3 j hj).2
    · exact hold _ _ (fun i _ i2 => c6e i i2) j hj (m4a 113 j (by omega) (by omega) (by omega) (by omega) (by omega)) (fun b _ _ => m4a 114 b (by omega) (by omega) (by omega) (by omega) (by omega))
  · have h9 : ¬ nI np = (8 : Int32) := fun w => h8 ((nI_eq (b := 8) (by omega) (by decide)).mp w)
    rw [if_neg h9, if_neg h9, hp_l, hp_bg1, hp_b2, if_neg (by decide), hp_ix (show np < hs_N 113 by show np < 8; omega), hp_l, nI_clamp (by omega), nI_1]
    have u1 : hs_U m4 113 np (m4 100 31) 100 31 = nI bts.length := by
      rw [hp_U2 (by decide), N5 100 31 (by omega), m3l]
    have u2 : hs_U m4 113 np (m4 100 31) 100 16 = nI np := by rw [hp_U2 (by decide), m416]
    obtain ⟨M, o1, o2, o3, o4, o5⟩ := hp_m444 (nI k) (show np < 8 by omega) b1.2 bts.length (39 - bts.length) 0 _ rfl u1 u2
    rw [show 39 - bts.length + bts.length + 1 = 40 by omega] at o1
    have Mg : ∀ i j, i ≠ 113 → i ≠ 114 → (i ≠ 100 ∨ j ≠ 16) → M i j = m4 i j := by
      intro i j i1 i2 i3
      rw [o5 i j i2 i3, hp_U2 i1]
    have C1 : ∀ i, i ≠ 4 → i ≠ 46 → hs_U (hs_U (hs_U c4 46 k (Sc 46 k + 1)) 46 5 (Sc 46 5 + nI bts.length)) 4 1 (nI (np + 1)) i = c4 i := by
      intro i i1 i2
      rw [← c6e i i2]
      funext b
      rw [hp_U2 i1]
    refine ⟨nI k, _, M, rfl, o1, by rw [Mg 100 0 (by decide) (by decide) (by decide), m4h 0 (by decide)]; exact ht, fin _ _ C1 (fun j => by rw [hp_U2 (by decide)]; exact hc6 j) Mg ⟨np + 1, pr, by omega, hp_U1, o2, fun j hj => ⟨(l3 j hj).1, ?_⟩, l4, fun j hj => ?_⟩⟩
    · rw [C1 5 (by decide) (by decide), c4e 5 (by omega) (by omega) (by omega) (by omega) (by omega)]; exact (l3 j hj).2
    · by_cases hjn : j = np
      · subst hjn
        rw [hq]
        refine ⟨bts.length, b1.1, b1.2, ?_, ?_, fun i hi => ?_⟩
        · rw [C1 q (by omega) (by omega), c4q, hp_W_l]
        · rw [o5 113 j (by decide) (by omega), hp_U1, N5 100 31 (by omega), m3l]
        · rw [C1 (q + 9) (by omega) (by omega), c4q9, hp_W_b hi, o3 i (by omega) hi, hp_U2 (by decide), N5 127 i (by omega), m3p i hi]
          exact ⟨rfl, hp_getD_in b2 hi⟩
      · refine hold _ _ C1 j (by omega) ?_ (fun b hb1 hb2 => ?_)
        · rw [o5 113 j (by decide) (by omega), hp_U3 hjn]
          exact m4a 113 j (by omega) (by omega) (by omega) (by omega) (by omega)
        · rw [o4 b (by omega), hp_U2 (by decide)]
          exact m4a 114 b (by omega) (by omega) (by omega) (by omega) (by omega)
