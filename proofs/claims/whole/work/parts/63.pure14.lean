/-! ===== a packet is taken off the line ===== -/
theorem hp_cTk (p : Nat) {m : Nat} (hm : m ≤ 7) : ∀ (r n i : Nat) (S : hs_M), r + i = m → S 4 1 = nI m → (∀ j, j < 9 → hs_K (S 5 j).toNatClampNeg = 3 ∧ nI (S 5 j).toNatClampNeg = S 5 j) → ∃ S', f_X2_takeOff_19 (n + r + 1) p (nI i) S = some (p, S') ∧ (∀ a, a ≠ 5 → S' a = S a) ∧ ∀ j, S' 5 j = if i ≤ j ∧ j < m then S 5 (j + 1) else if j = m then nI p else S 5 j
  | 0, n, i, S, h, h1, h2 => by
    have hi : i = m := by omega
    subst hi
    refine ⟨hs_U S 5 i (nI p), ?_, fun a ha => by funext b; exact hp_U2 ha, fun j => ?_⟩
    · show fb_X2_takeOff_19 _ _ _ _ = _
      unfold fb_X2_takeOff_19
      rw [h1, if_pos (nI_le (Nat.le_refl i) (by omega)), hp_ix (show i < hs_N 5 by show i < 9; omega), hp_l, nI_clamp (by omega)]
    · rw [if_neg (by omega)]
      by_cases hj : j = i
      · rw [if_pos hj, hj, hp_U1]
      · rw [if_neg hj, hp_U3 hj]
  | r + 1, n, i, S, h, h1, h2 => by
    have e : f_X2_takeOff_19 (n + (r + 1) + 1) p (nI i) S = f_X2_takeOff_19 (n + (r + 1)) p (nI (i + 1)) (hs_U S 5 i (S 5 (i + 1))) := by
      show fb_X2_takeOff_19 _ _ _ _ = _
      unfold fb_X2_takeOff_19
      rw [h1, if_neg (nI_ge (by omega) (by omega)), hp_l, nI_1, hp_ix (show i + 1 < hs_N 5 by show _ < 9; omega), hp_l, nI_clamp (by omega), hp_kg (h2 (i + 1) (by omega)).1, hp_ix (show i < hs_N 5 by show _ < 9; omega), hp_l, hp_l, nI_clamp (by omega), (h2 (i + 1) (by omega)).2]
    have w : ∀ j, j < 9 → hs_K (hs_U S 5 i (S 5 (i + 1)) 5 j).toNatClampNeg = 3 ∧ nI (hs_U S 5 i (S 5 (i + 1)) 5 j).toNatClampNeg = hs_U S 5 i (S 5 (i + 1)) 5 j := by
      intro j hj
      by_cases hji : j = i
      · subst hji
        rw [hp_U1]
        exact h2 _ (by omega)
      · rw [hp_U3 hji]
        exact h2 j hj
    obtain ⟨S', s1, s2, s3⟩ := hp_cTk p hm r n (i + 1) (hs_U S 5 i (S 5 (i + 1))) (by omega) (by rw [hp_U2 (by decide)]; exact h1) w
    refine ⟨S', e.trans s1, fun a ha => ?_, fun j => ?_⟩
    · rw [s2 a ha]
      funext b
      exact hp_U2 ha
    · rw [s3 j]
      by_cases c1 : i + 1 ≤ j ∧ j < m
      · rw [if_pos c1, if_pos (by omega), hp_U3 (by omega)]
      · rw [if_neg c1]
        by_cases c2 : j = m
        · rw [if_pos c2, if_neg (by omega), if_pos c2]
        · rw [if_neg c2]
          by_cases c3 : j = i
          · subst c3
            rw [hp_U1, if_pos (by omega)]
          · rw [hp_U3 c3, if_neg (by omega), if_neg c2]
theorem hp_mOfI (K : Int32 → hs_M → Option hs_M) {j : Nat} (hj : j < 7) : ∀ (r n i : Nat) (S : hs_M), r + i = 20 → ∃ S', f_X7_off_36 K (n + r + 1) (nI j) (nI i) S = K (nI (j + 1)) S' ∧ (∀ a b, a ≠ 114 → S' a b = S a b) ∧ ∀ b, S' 114 b = if 20 * j + i ≤ b ∧ b < 20 * j + 20 then S 114 (b + 20) else S 114 b
  | 0, n, i, S, h => by
    have hi : i = 20 := by omega
    subst hi
    refine ⟨S, ?_, fun _ _ _ => rfl, fun b => by rw [if_neg (by omega)]⟩
    show fb_X7_off_36 _ _ _ _ _ = _
    unfold fb_X7_off_36
    rw [if_pos (show (20 : Int32) ≤ nI 20 by decide), hp_l, nI_1]
  | r + 1, n, i, S, h => by
    have e : f_X7_off_36 K (n + (r + 1) + 1) (nI j) (nI i) S = f_X7_off_36 K (n + (r + 1)) (nI j) (nI (i + 1)) (hs_U S 114 (20 * j + i) (S 114 (20 * j + i + 20))) := by
      show fb_X7_off_36 _ _ _ _ _ = _
      unfold fb_X7_off_36
      have e1 : (20 : Int32) * nI j + 20 + nI i = nI (20 * j + i + 20) := by
        rw [show (20 : Int32) * nI j = nI (20 * j) by rw [show (20 : Int32) = nI 20 from rfl, pk_mul], show (20 : Int32) = nI 20 from rfl, nI_add, nI_add, show 20 * j + 20 + i = 20 * j + i + 20 by omega]
      rw [if_neg (show ¬ (20 : Int32) ≤ nI i from nI_ge (b := 20) (by omega) (by decide)), hp_l, e1, hp_20, hp_ix (show 20 * j + i + 20 < hs_N 114 by show _ < 160; omega), hp_ix (show 20 * j + i < hs_N 114 by show _ < 160; omega), hp_l, hp_l, nI_clamp (by omega), nI_clamp (by omega), nI_1]
    obtain ⟨S', s1, s2, s3⟩ := hp_mOfI K hj r n (i + 1) (hs_U S 114 (20 * j + i) (S 114 (20 * j + i + 20))) (by omega)
    refine ⟨S', e.trans s1, fun a b ha => ?_, fun b => ?_⟩
    · rw [s2 a b ha, hp_U2 ha]
    · rw [s3 b]
      by_cases c1 : 20 * j + (i + 1) ≤ b ∧ b < 20 * j + 20
      · rw [if_pos c1, if_pos (by omega), hp_U3 (by omega)]
      · rw [if_neg c1]
        by_cases c2 : b = 20 * j + i
        · subst c2
          rw [hp_U1, if_pos (by omega)]
        · rw [hp_U3 c2, if_neg (by omega)]
theorem hp_mOf {m : Nat} (hm : m ≤ 7) : ∀ (r n j : Nat) (S : hs_M), r + j = m → S 100 16 = nI m → ∃ S', f_X7_off_12 (n + r + 1) (nI j) S = some S' ∧ (∀ a b, a ≠ 113 → a ≠ 114 → S' a b = S a b) ∧ (∀ i, S' 113 i = if j ≤ i ∧ i < m then S 113 (i + 1) else S 113 i) ∧ ∀ b, S' 114 b = if 20 * j ≤ b ∧ b < 20 * m then S 114 (b + 20) else S 114 b
  | 0, n, j, S, h, h1 => by
    have hi : j = m := by omega
    subst hi
    refine ⟨S, ?_, fun _ _ _ _ => rfl, fun i => by rw [if_neg (by omega)], fun b => by rw [if_neg (by omega)]⟩
    show fb_X7_off_12 _ _ _ = _
    unfold fb_X7_off_12
    rw [h1, if_pos (nI_le (Nat.le_refl j) (by omega))]
  | r + 1, n, j, S, h, h1 => by
    have e : f_X7_off_12 (n + (r + 1) + 1) (nI j) S = f_X7_off_36 (f_X7_off_12 (n + (r + 1))) (19 + 20 + 1) (nI j) (nI 0) (hs_U S 113 j (S 113 (j + 1))) := by
      show fb_X7_off_12 _ _ _ = _
      unfold fb_X7_off_12
      rw [h1, if_neg (nI_ge (by omega) (by omega)), hp_l, nI_1, hp_ix (show j + 1 < hs_N 113 by show _ < 8; omega), hp_ix (show j < hs_N 113 by show _ < 8; omega), hp_l, nI_clamp (by omega), nI_clamp (by omega)]
      rfl
    obtain ⟨S1, t1, t2, t3⟩ := hp_mOfI (f_X7_off_12 (n + (r + 1))) (show j < 7 by omega) 20 19 0 (hs_U S 113 j (S 113 (j + 1))) rfl
    obtain ⟨S', s1, s2, s3, s4⟩ := hp_mOf hm r n (j + 1) S1 (by omega) (by rw [t2 100 16 (by decide), hp_U2 (by decide)]; exact h1)
    refine ⟨S', (e.trans t1).trans s1, fun a b ha hb => ?_, fun i => ?_, fun b => ?_⟩
    · rw [s2 a b ha hb, t2 a b hb, hp_U2 ha]
    · rw [s3 i, t2 113 _ (by decide), t2 113 _ (by decide)]
      by_cases c1 : j + 1 ≤ i ∧ i < m
      · rw [if_pos c1, if_pos (by omega), hp_U3 (by omega)]
      · rw [if_neg c1]
        by_cases c2 : i = j
        · subst c2
          rw [hp_U1, if_pos (by omega)]
        · rw [hp_U3 c2, if_neg (by omega)]
    · rw [s4 b, t3 b, t3 (b + 20)]
      by_cases c1 : 20 * (j + 1) ≤ b ∧ b < 20 * m
      · rw [if_pos c1, if_neg (by omega), hp_U2 (by decide), if_pos (by omega)]
      · rw [if_neg c1]
        by_cases c2 : 20 * j + 0 ≤ b ∧ b < 20 * j + 20
        · rw [if_pos c2, hp_U2 (by decide), if_pos (by omega)]
        · rw [if_neg c2, hp_U2 (by decide), if_neg (by omega)]
def hp_sh (pr : Nat → Nat) (k m j : Nat) : Nat := if k ≤ j ∧ j < m then pr (j + 1) else if j = m then pr k else pr j
theorem hp_off {np : Nat} {pr : Nat → Nat} {Sc Sm : hs_M} (hL : hp_RL np pr Sc Sm) {k : Nat} (hk : k < np) : ∃ C M, f_X2_takeOff (nI k) Sc = some (pr k, C) ∧ f_X7_off (nI k) Sm = some M ∧ hp_RL (np - 1) (hp_sh pr k (np - 1)) C M ∧ (∀ i, i ≠ 4 → i ≠ 5 → C i = Sc i) ∧ (∀ a b, a ≠ 113 → a ≠ 114 → (a ≠ 100 ∨ b ≠ 16) → M a b = Sm a b) := by
  obtain ⟨hnp, l1, l2, l3, l4, l5⟩ := hL
  obtain ⟨m, rfl⟩ : ∃ m, np = m + 1 := ⟨np - 1, by omega⟩
  have hpk := l3 k (by omega)
  have hrow : ∀ j, j < 9 → hs_K (hs_U Sc 4 1 (nI m) 5 j).toNatClampNeg = 3 ∧ nI (hs_U Sc 4 1 (nI m) 5 j).toNatClampNeg = hs_U Sc 4 1 (nI m) 5 j := by
    intro j hj
    have hp := l3 j hj
    rw [hp_U2 (by decide), hp.2, nI_clamp (by omega)]
    exact ⟨hp_K3 hp.1, rfl⟩
  obtain ⟨C, c1, c2, c3⟩ := hp_cTk (pr k) (show m ≤ 7 by omega) (m - k) (39 - (m - k)) k (hs_U Sc 4 1 (nI m)) (by omega) hp_U1 hrow
  obtain ⟨M, m1, m2, m3, m4⟩ := hp_mOf (show m ≤ 7 by omega) (m - k) (39 - (m - k)) k (hs_U Sm 100 16 (nI m)) (by omega) hp_U1
  rw [show 39 - (m - k) + (m - k) + 1 = 40 by omega] at c1 m1
  rw [Nat.add_sub_cancel]
  have C5 : ∀ j, j < 9 → C 5 j = nI (hp_sh pr k m j) := by
    intro j hj
    rw [c3 j]
    unfold hp_sh
    by_cases q1 : k ≤ j ∧ j < m
    · rw [if_pos q1, if_pos q1, hp_U2 (by decide)]
      exact (l3 _ (by omega)).2
    · rw [if_neg q1, if_neg q1]
      by_cases q2 : j = m
      · rw [if_pos q2, if_pos q2]
      · rw [if_neg q2, if_neg q2, hp_U2 (by decide)]
        exact (l3 j hj).2
  have Ce : ∀ i, i ≠ 4 → i ≠ 5 → C i = Sc i := by
    intro i i1 i2
    rw [c2 i i2]
    funext b
    exact hp_U2 i1
  refine ⟨C, M, ?_, ?_, ⟨by omega, ?_, ?_, fun j hj => ⟨?_, C5 j hj⟩, fun i j hi hj hij => ?_, fun j hj => ?_⟩, Ce, fun a b a1 a2 a3 => ?_⟩
  · unfold f_X2_takeOff f_X2_takeOff_0
    rw [hp_ix (show k < hs_N 5 by show k < 9; omega), hp_l, nI_clamp (by omega), hpk.2, nI_clamp (by omega), hp_kg (hp_K3 hpk.1), hp_l, l1, nI_pred]
    exact c1
  · unfold f_X7_off f_X7_off_0
    rw [hp_l, l2, nI_pred]
    exact m1
  · rw [c2 4 (by decide), hp_U1]
  · rw [m2 100 16 (by decide) (by decide), hp_U1]
  · unfold hp_sh
    by_cases q1 : k ≤ j ∧ j < m
    · rw [if_pos q1]; exact (l3 _ (by omega)).1
    · rw [if_neg q1]
      by_cases q2 : j = m
      · rw [if_pos q2]; exact hpk.1
      · rw [if_neg q2]; exact (l3 j hj).1
  · have sig : ∀ j, j < 9 → ∃ t, t < 9 ∧ hp_sh pr k m j = pr t ∧ ((k ≤ j ∧ j < m ∧ t = j + 1) ∨ (¬ (k ≤ j ∧ j < m) ∧ j = m ∧ t = k) ∨ (¬ (k ≤ j ∧ j < m) ∧ j ≠ m ∧ t = j)) := by
      intro j hj
      unfold hp_sh
      by_cases q1 : k ≤ j ∧ j < m
      · exact ⟨j + 1, by omega, if_pos q1, Or.inl ⟨q1.1, q1.2, rfl⟩⟩
      · by_cases q2 : j = m
        · exact ⟨k, by omega, by rw [if_neg q1, if_pos q2], Or.inr (Or.inl ⟨q1, q2, rfl⟩)⟩
        · exact ⟨j, hj, by rw [if_neg q1, if_neg q2], Or.inr (Or.inr ⟨q1, q2, rfl⟩)⟩
    obtain ⟨t1, h1, h2, h3⟩ := sig i hi
    obtain ⟨t2, h4, h5, h6⟩ := sig j hj
    rw [h2, h5] at hij
    have := l4 t1 t2 h1 h4 hij
    omega
  · by_cases q1 : k ≤ j
    · have e : hp_sh pr k m j = pr (j + 1) := if_pos ⟨q1, hj⟩
      rw [e]
      obtain ⟨l, o1, o2, o3, o4, o5⟩ := l5 (j + 1) (by omega)
      have hp := l3 (j + 1) (by omega)
      refine ⟨l, o1, o2, ?_, ?_, fun i hi => ?_⟩
      · rw [Ce _ (by omega) (by omega)]; exact o3
      · rw [m3 j, if_pos ⟨q1, hj⟩, hp_U2 (by decide)]; exact o4
      · rw [Ce _ (by omega) (by omega), m4, if_pos (by omega), hp_U2 (by decide), show 20 * j + i + 20 = 20 * (j + 1) + i by omega]
        exact o5 i hi
    · have e : hp_sh pr k m j = pr j := by
        unfold hp_sh
        rw [if_neg (by omega), if_neg (by omega)]
      rw [e]
      have hp := l3 j (by omega)
      refine hp_RK_fr (l5 j (by omega)) ?_ (Ce _ (by omega) (by omega)) ?_ (fun b b1 b2 => ?_)
      · rw [Ce _ (by omega) (by omega)]
      · rw [m3 j, if_neg (by omega), hp_U2 (by decide)]
      · rw [m4 b, if_neg (by omega), hp_U2 (by decide)]
  · rw [m2 a b a1 a2]
    by_cases h100 : a = 100
    · exact hp_U3 (by omega)
    · exact hp_U2 h100
theorem hp_R_line {n : Nat} {Sc Sm C M : hs_M} (h : hp_R n Sc Sm) (ec : ∀ i, i ≠ 4 → i ≠ 5 → C i = Sc i) (em : ∀ a b, a ≠ 113 → a ≠ 114 → (a ≠ 100 ∨ b ≠ 16) → M a b = Sm a b) (hP : hp_RP C M) : hp_R n C M := by
  obtain ⟨⟨⟨a1, a2⟩, ⟨a3, a4⟩, a5⟩, b, c, _, e, ⟨pl, pt, g1, g2, g3, g4⟩⟩ := h
  refine ⟨⟨⟨?_, ?_⟩, ⟨?_, ?_⟩, ?_⟩, fun f hf => ?_, fun f hf => ?_, hP, fun j hj => ?_, ⟨pl, pt, g1, ?_, ?_, fun i hi => ?_⟩⟩
  · rw [ec 1 (by decide) (by decide), em 100 1 (by decide) (by decide) (by decide)]; exact a1
  · rw [em 100 1 (by decide) (by decide) (by decide)]; exact a2
  · rw [ec 1 (by decide) (by decide), em 100 2 (by decide) (by decide) (by decide)]; exact a3
  · rw [em 100 2 (by decide) (by decide) (by decide)]; exact a4
  · rw [ec 1 (by decide) (by decide), em 100 3 (by decide) (by decide) (by decide)]; exact a5
  · exact hp_RS_fr (b f hf) (ec _ (by omega) (by omega)) (ec _ (by omega) (by omega)) (ec _ (by omega) (by omega)) (fun i i1 i2 => em i f (by omega) (by omega) (by omega)) (fun j _ => em _ _ (by omega) (by omega) (by omega))
  · exact hp_RR_fr (c f hf) (ec _ (by omega) (by omega)) (ec _ (by omega) (by omega)) (fun i i1 i2 => em i f (by omega) (by omega) (by omega))
  · rw [ec 46 (by omega) (by omega), em 125 j (by decide) (by decide) (by omega)]; exact e j hj
  · rw [ec 0 (by omega) (by omega)]; exact g2
  · rw [ec 0 (by omega) (by omega)]; exact g3
  · rw [ec pl (by omega) (by omega), em 124 i (by decide) (by decide) (by omega)]; exact g4 i hi
theorem hp_sim_lose (n : Nat) (a0 : Int32) : hs_sim1 (hp_R n) (hp_R (n + 1)) (f_L_lose a0) (f_X7_lose a0) := by
  intro Sc Sm hR
  obtain ⟨np, pr, hL⟩ := hR.2.2.2.1
  rcases hp_pkt hL.1 a0 hL.2.1 hL.2.2.1 with ⟨k, hk, rfl, hc, hm⟩ | ⟨hc, hm⟩
  · have hR0 := hp_R_t hR 0
    have hL0 : hp_RL np pr Sc (hs_U Sm 100 0 0) := hp_RL_fr hL rfl rfl (fun _ _ _ => rfl) (fun _ _ _ => rfl) (hp_U3 (by decide)) (fun b => hp_U2 (by decide)) (fun b => hp_U2 (by decide))
    obtain ⟨C, M, o1, o2, o3, o4, o5⟩ := hp_off hL0 hk
    have hpk := hL.2.2.2.1 k (by have := hL.1; omega)
    refine hp_x1 0 C M ?_ ?_ ?_ (hp_R_up (hp_R_line hR0 o4 o5 ⟨_, _, o3⟩))
    · unfold f_L_lose f_X6_lose f_X6_lose_0
      rw [hc, hp_b2, if_pos rfl, o1, hp_b2, hp_kg (hp_K3 hpk.1)]
      rfl
    · unfold f_X7_lose f_X7_lose_0 f_X7_lose_14 f_X7_lose_29
      rw [hm, hp_b2, if_pos rfl, hp_l, hp_U1, if_pos rfl, o2, hp_b1]
    · rw [o5 100 0 (by decide) (by decide) (by decide), hp_U1]
  · refine hp_x1 1 Sc (hs_U Sm 100 0 1) ?_ ?_ hp_U1 (hp_R_up (hp_R_t hR 1))
    · unfold f_L_lose f_X6_lose f_X6_lose_0
      rw [hc, hp_b2, if_neg (by decide)]
      rfl
    · unfold f_X7_lose f_X7_lose_0 f_X7_lose_14 f_X7_lose_29
      rw [hm, hp_b2, if_neg (by decide), hp_l, hp_U1, if_neg (by decide)]
