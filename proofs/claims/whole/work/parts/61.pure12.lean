/-! ===== the calls, both sides ===== -/
theorem hp_x1 {Rn : hs_M → hs_M → Prop} {fL : hs_M → Option (Int32 × hs_M)} {fM : hs_M → Option hs_M} {Sc Sm : hs_M} (k : Int32) (Sc' Sm' : hs_M) (h1 : fL Sc = some (k, Sc')) (h2 : fM Sm = some Sm') (h3 : Sm' 100 0 = k) (h5 : Rn Sc' Sm') : ∃ (k : Int32) (Sc' Sm' Sm2 : hs_M), fL Sc = some (k, Sc') ∧ fM Sm = some Sm' ∧ f_X7_thrown Sm' = some (k, Sm2) ∧ Rn Sc' Sm2 := ⟨k, Sc', Sm', Sm', h1, h2, by rw [hp_thrown, h3], h5⟩
theorem hp_x2 {Rn : hs_M → hs_M → Prop} {fL fM : hs_M → Option (Int32 × hs_M)} {Sc Sm : hs_M} (k v : Int32) (Sc' Sm' : hs_M) (h1 : fL Sc = some (k, Sc')) (h2 : fM Sm = some (v, Sm')) (h3 : Sm' 100 0 = k) (h4 : k = 0 → Sc' 47 0 = v) (h5 : Rn Sc' Sm') : ∃ (k v : Int32) (Sc' Sm' Sm2 : hs_M), fL Sc = some (k, Sc') ∧ fM Sm = some (v, Sm') ∧ f_X7_thrown Sm' = some (k, Sm2) ∧ (k = 0 → Sc' 47 0 = v) ∧ Rn Sc' Sm2 := ⟨k, v, Sc', Sm', Sm', h1, h2, by rw [hp_thrown, h3], h4, h5⟩
theorem hp_R_t {n : Nat} {Sc Sm : hs_M} (h : hp_R n Sc Sm) (x : Int32) : hp_R n Sc (hs_U Sm 100 0 x) := hp_R_fr h (fun _ _ _ => rfl) (fun _ _ => rfl) (fun i b h1 _ _ => hp_U2 h1) (fun b h1 _ => hp_U3 (by omega))
theorem hp_R_v {n : Nat} {Sc Sm : hs_M} (h : hp_R n Sc Sm) (v : Int32) : hp_R n (hs_U Sc 47 0 v) Sm := hp_R_fr h (fun i _ h2 => by funext b; exact hp_U2 h2) (fun _ _ => hp_U2 (by decide)) (fun _ _ _ _ _ => rfl) (fun _ _ _ => rfl)
theorem hp_big {x : Int32} {N : Nat} (hN : N + 1 < 2 ^ 31) (h : nI (N + 1) ≤ x) : ¬ x < 0 ∧ ¬ x < nI (N + 1) ∧ ¬ x ≤ nI N := by
  rw [Int32.le_iff_toInt_le, nI_toInt hN] at h
  rw [Int32.lt_iff_toInt_lt, Int32.lt_iff_toInt_lt, Int32.le_iff_toInt_le, nI_toInt hN, nI_toInt (by omega)]
  have e : (0 : Int32).toInt = 0 := rfl
  omega
theorem hp_sim_stride (n : Nat) (a0 a1 : Int32) : hs_sim1 (hp_R n) (hp_R (n + 1)) (f_L_stride a0 a1) (f_X7_stride a0 a1) := by
  intro Sc Sm hR
  rcases hp_flow a0 with ⟨f, hf, rfl, hc, hm⟩ | ⟨hc, hm⟩
  · rcases hp_two a1 with ⟨r, hc2, hm2⟩ | ⟨hc2, hm2⟩
    · refine hp_x1 0 (hs_U Sc (25 + f) 1 a1) (hs_U (hs_U Sm 100 0 0) 101 f a1) ?_ ?_ ?_ ?_
      · unfold f_L_stride f_X6_stride f_X6_stride_0
        rw [hc, hp_b2, if_pos rfl, hc2, hp_b2, if_pos rfl, hp_ix (show f < hs_N 24 from hf), nI_clamp (by omega)]
        rfl
      · unfold f_X7_stride f_X7_stride_0 f_X7_stride_26 f_X7_stride_43
        rw [hm, hp_b2, if_pos rfl, hm2, hp_b2, if_pos rfl, hp_l, hp_U1, if_pos rfl, hp_ix (show f < hs_N 101 from hf), nI_clamp (by omega)]
        rfl
      · (repeat (first | rw [hp_U1] | rw [hp_U2 (by omega)] | rw [hp_U3 (by omega)]))
      · have hR2 := hp_R_up (hp_R_t hR 0)
        obtain ⟨⟨⟨a1', a2'⟩, ⟨a3, a4⟩, a5⟩, hRS, hRR, ⟨np, pr, hL⟩, hRC, ⟨pl, pt, g1, g2, g3, g4⟩⟩ := hR2
        have cE : ∀ i, i ≠ 25 + f → hs_U Sc (25 + f) 1 a1 i = Sc i := fun i hi => by funext b; exact hp_U2 hi
        have mE : ∀ i b, i ≠ 101 → hs_U (hs_U Sm 100 0 0) 101 f a1 i b = hs_U Sm 100 0 0 i b := fun i b hi => hp_U2 hi
        refine ⟨⟨⟨?_, ?_⟩, ⟨?_, ?_⟩, ?_⟩, fun g hg => ?_, fun g hg => ?_, ⟨np, pr, ?_⟩, fun j hj => ?_, ⟨pl, pt, g1, ?_, ?_, fun i hi => ?_⟩⟩
        · rw [cE 1 (by omega), mE 100 1 (by decide)]; exact a1'
        · rw [mE 100 1 (by decide)]; exact a2'
        · rw [cE 1 (by omega), mE 100 2 (by decide)]; exact a3
        · rw [mE 100 2 (by decide)]; exact a4
        · rw [cE 1 (by omega), mE 100 3 (by decide)]; exact a5
        · by_cases hgf : g = f
          · subst hgf
            obtain ⟨_, ⟨b1, b2⟩, c, d, ⟨h1, h2⟩, ⟨x0, x1, x2, x3, x4⟩, ⟨k, k1, k2, k3, k4⟩⟩ := hRS g hg
            refine ⟨⟨?_, ?_⟩, ⟨?_, ?_⟩, ?_, ?_, ⟨?_, ?_⟩, ⟨?_, ?_, ?_, ?_, ?_⟩, ⟨k, k1, ?_, ?_, fun j hj => ?_⟩⟩
            · (repeat (first | rw [hp_U1] | rw [hp_U2 (by omega)] | rw [hp_U3 (by omega)]))
            · (repeat (first | rw [hp_U1] | rw [hp_U2 (by omega)] | rw [hp_U3 (by omega)])); exact r
            · rw [hp_U3 (by decide), mE _ _ (by decide)]; exact b1
            · rw [mE _ _ (by decide)]; exact b2
            · rw [hp_U3 (by decide), mE _ _ (by decide)]; exact c
            · rw [hp_U3 (by decide), mE _ _ (by decide)]; exact d
            · rw [hp_U3 (by decide), mE _ _ (by decide)]; exact h1
            · rw [mE _ _ (by decide)]; exact h2
            · rw [cE _ (by omega), mE _ _ (by decide)]; exact x0
            · rw [cE _ (by omega), mE _ _ (by decide)]; exact x1
            · rw [cE _ (by omega), mE _ _ (by decide)]; exact x2
            · rw [cE _ (by omega), mE _ _ (by decide)]; exact x3
            · rw [cE _ (by omega), mE _ _ (by decide)]; exact x4
            · rw [hp_U3 (by decide)]; exact k2
            · rw [mE _ _ (by decide)]; exact k3
            · rw [cE _ (by omega), mE _ _ (by decide)]; exact k4 j hj
          · refine hp_RS_fr (hRS g hg) (cE _ (by omega)) (cE _ (by omega)) (cE _ (by omega)) (fun i i1 i2 => hp_U3 hgf) (fun j _ => mE _ _ (by decide))
        · exact hp_RR_fr (hRR g hg) (cE _ (by omega)) (cE _ (by omega)) (fun i i1 i2 => mE _ _ (by omega))
        · exact hp_RL_fr hL (by rw [cE 4 (by omega)]) (cE 5 (by omega)) (fun p p1 p2 => by rw [cE p (by omega)]) (fun p p1 p2 => cE p (by omega)) (mE _ _ (by decide)) (fun b => mE _ _ (by decide)) (fun b => mE _ _ (by decide))
        · rw [cE 46 (by omega), mE _ _ (by decide)]; exact hRC j hj
        · rw [cE 0 (by omega)]; exact g2
        · rw [cE 0 (by omega)]; exact g3
        · rw [cE pl (by omega), mE _ _ (by decide)]; exact g4 i hi
    · refine hp_x1 2 Sc (hs_U Sm 100 0 2) ?_ ?_ hp_U1 (hp_R_up (hp_R_t hR 2))
      · unfold f_L_stride f_X6_stride f_X6_stride_0
        rw [hc, hp_b2, if_pos rfl, hc2, hp_b2, if_neg (by decide)]
        rfl
      · unfold f_X7_stride f_X7_stride_0 f_X7_stride_26 f_X7_stride_43
        rw [hm, hp_b2, if_pos rfl, hm2, hp_b2, if_neg (by decide), hp_l, hp_U1, if_neg (by decide)]
  · refine hp_x1 1 Sc (hs_U Sm 100 0 1) ?_ ?_ hp_U1 (hp_R_up (hp_R_t hR 1))
    · unfold f_L_stride f_X6_stride f_X6_stride_0
      rw [hc, hp_b2, if_neg (by decide)]
      rfl
    · unfold f_X7_stride f_X7_stride_0 f_X7_stride_26 f_X7_stride_43
      rw [hm, hp_b2, if_neg (by decide), hp_l, hp_U1, if_neg (by decide)]
theorem hp_sim_head (n : Nat) (a0 a1 a2 : Int32) (h2 : a2 = 0 ∨ a2 = 1) : hs_sim1 (hp_R n) (hp_R (n + 1)) (f_L_head a0 a1 a2) (f_X7_head a0 a1 a2) := by
  intro Sc Sm hR
  have bad : (f_X6_head a0 a1 a2 Sc = some ((2, 0), Sc)) → f_X7_head a0 a1 a2 Sm = some (hs_U Sm 100 0 1) → ∃ (k : Int32) (Sc' Sm' Sm2 : hs_M), f_L_head a0 a1 a2 Sc = some (k, Sc') ∧ f_X7_head a0 a1 a2 Sm = some Sm' ∧ f_X7_thrown Sm' = some (k, Sm2) ∧ hp_R (n + 1) Sc' Sm2 := by
    intro e1 e2
    refine hp_x1 1 Sc (hs_U Sm 100 0 1) ?_ e2 hp_U1 (hp_R_up (hp_R_t hR 1))
    unfold f_L_head
    rw [e1]
    rfl
  rcases hp_two a0 with ⟨r, hc, hm⟩ | ⟨hc, hm⟩
  · by_cases q1 : a1 < 0
    · refine bad ?_ ?_
      · unfold f_X6_head f_X6_head_0
        rw [hc, hp_b2, if_pos rfl, if_pos q1]
        rfl
      · unfold f_X7_head f_X7_head_0 f_X7_head_19 f_X7_head_24 f_X7_head_49
        rw [hm, hp_b2, if_pos rfl, if_pos q1, hp_l, hp_U1, if_neg (by decide)]
    · by_cases q2 : a1 ≤ 127
      · have r1 : hp_in a1 128 := hp_of (n := 127) rfl q1 q2
        refine hp_x1 0 (hs_U (hs_U (hs_U Sc 1 0 a0) 1 1 a1) 1 2 a2) (hs_U (hs_U (hs_U (hs_U Sm 100 0 0) 100 1 a0) 100 2 a1) 100 3 a2) ?_ ?_ ?_ ?_
        · unfold f_L_head f_X6_head f_X6_head_0
          rw [hc, hp_b2, if_pos rfl, if_neg q1, if_pos q2, hp_l, hp_l, hp_bg h2]
          rfl
        · unfold f_X7_head f_X7_head_0 f_X7_head_24 f_X7_head_49
          rw [hm, hp_b2, if_pos rfl, if_neg q1, if_pos q2, hp_l, hp_U1, if_pos rfl, hp_l, hp_l, hp_bg h2]
          rfl
        · (repeat (first | rw [hp_U1] | rw [hp_U2 (by omega)] | rw [hp_U3 (by omega)]))
        · obtain ⟨_, hRS, hRR, ⟨np, pr, hL⟩, hRC, ⟨pl, pt, g1, g2, g3, g4⟩⟩ := hp_R_up hR
          have cE : ∀ i, i ≠ 1 → hs_U (hs_U (hs_U Sc 1 0 a0) 1 1 a1) 1 2 a2 i = Sc i := fun i hi => by funext b; (repeat (first | rw [hp_U1] | rw [hp_U2 (by omega)] | rw [hp_U3 (by omega)]))
          have mE : ∀ i b, (i ≠ 100 ∨ 3 < b) → hs_U (hs_U (hs_U (hs_U Sm 100 0 0) 100 1 a0) 100 2 a1) 100 3 a2 i b = Sm i b := by
            intro i b hi
            by_cases hi2 : i = 100
            · have hb : 3 < b := by omega
              (repeat (first | rw [hp_U1] | rw [hp_U2 (by omega)] | rw [hp_U3 (by omega)]))
            · (repeat (first | rw [hp_U1] | rw [hp_U2 (by omega)] | rw [hp_U3 (by omega)]))
          refine ⟨⟨⟨?_, ?_⟩, ⟨?_, ?_⟩, ?_⟩, fun g hg => ?_, fun g hg => ?_, ⟨np, pr, ?_⟩, fun j hj => ?_, ⟨pl, pt, g1, ?_, ?_, fun i hi => ?_⟩⟩
          · (repeat (first | rw [hp_U1] | rw [hp_U2 (by omega)] | rw [hp_U3 (by omega)]))
          · (repeat (first | rw [hp_U1] | rw [hp_U2 (by omega)] | rw [hp_U3 (by omega)])); exact r
          · (repeat (first | rw [hp_U1] | rw [hp_U2 (by omega)] | rw [hp_U3 (by omega)]))
          · (repeat (first | rw [hp_U1] | rw [hp_U2 (by omega)] | rw [hp_U3 (by omega)])); exact r1
          · (repeat (first | rw [hp_U1] | rw [hp_U2 (by omega)] | rw [hp_U3 (by omega)]))
          · exact hp_RS_fr (hRS g hg) (cE _ (by omega)) (cE _ (by omega)) (cE _ (by omega)) (fun i i1 i2 => mE _ _ (by omega)) (fun j _ => mE _ _ (by omega))
          · exact hp_RR_fr (hRR g hg) (cE _ (by omega)) (cE _ (by omega)) (fun i i1 i2 => mE _ _ (by omega))
          · exact hp_RL_fr hL (by rw [cE 4 (by omega)]) (cE 5 (by omega)) (fun p p1 p2 => by rw [cE p (by omega)]) (fun p p1 p2 => cE p (by omega)) (mE _ _ (by omega)) (fun b => mE _ _ (by omega)) (fun b => mE _ _ (by omega))
          · rw [cE 46 (by omega), mE _ _ (by omega)]; exact hRC j hj
          · rw [cE 0 (by omega)]; exact g2
          · rw [cE 0 (by omega)]; exact g3
          · rw [cE pl (by omega), mE _ _ (by omega)]; exact g4 i hi
      · refine bad ?_ ?_
        · unfold f_X6_head f_X6_head_0
          rw [hc, hp_b2, if_pos rfl, if_neg q1, if_neg q2]
          rfl
        · unfold f_X7_head f_X7_head_0 f_X7_head_19 f_X7_head_24 f_X7_head_49
          rw [hm, hp_b2, if_pos rfl, if_neg q1, if_neg q2, hp_l, hp_U1, if_neg (by decide)]
  · refine bad ?_ ?_
    · unfold f_X6_head f_X6_head_0
      rw [hc, hp_b2, if_neg (by decide)]
      rfl
    · unfold f_X7_head f_X7_head_0 f_X7_head_19 f_X7_head_24 f_X7_head_49
      rw [hm, hp_b2, if_neg (by decide), hp_l, hp_U1, if_neg (by decide)]
theorem hp_sim_send {n : Nat} (hn : n ≤ 1000) (a0 a1 a2 a3 : Int32) : hs_sim2 (hp_R n) (hp_R (n + 1)) (f_L_send a0 a1 a2 a3) (f_X7_send a0 a1 a2 a3) := by
  intro Sc Sm hR
  rcases hp_flow a0 with ⟨f, hf, rfl, hc, hm⟩ | ⟨hc, hm⟩
  · have bad : (f_X6_send (nI f) a1 a2 a3 Sc = some ((2, 0), Sc)) → f_X7_send (nI f) a1 a2 a3 Sm = some (0, hs_U Sm 100 0 2) → ∃ (k v : Int32) (Sc' Sm' Sm2 : hs_M), f_L_send (nI f) a1 a2 a3 Sc = some (k, Sc') ∧ f_X7_send (nI f) a1 a2 a3 Sm = some (v, Sm') ∧ f_X7_thrown Sm' = some (k, Sm2) ∧ (k = 0 → Sc' 47 0 = v) ∧ hp_R (n + 1) Sc' Sm2 := by
      intro e1 e2
      refine hp_x2 2 0 Sc (hs_U Sm 100 0 2) ?_ e2 hp_U1 (fun w => absurd w (by decide)) (hp_R_up (hp_R_t hR 2))
      unfold f_L_send
      rw [e1]
      rfl
    have m2 : hp_M35 (nI f) a1 a2 a3 (hs_U Sm 100 0 2) = some (0, hs_U Sm 100 0 2) := by
      unfold hp_M35
      rw [hp_U1, if_neg (by decide)]
    rcases hp_two a1 with ⟨r3, hc2, hm2⟩ | ⟨hc2, hm2⟩
    · rcases hp_two a3 with ⟨r5, hc3, hm3⟩ | ⟨hc3, hm3⟩
      · have u3 : hs_U (hs_U (hs_U Sc 1 3 a1) 1 4 a2) 1 5 a3 1 3 = a1 := by (repeat (first | rw [hp_U1] | rw [hp_U2 (by omega)] | rw [hp_U3 (by omega)]))
        have u4 : hs_U (hs_U (hs_U Sc 1 3 a1) 1 4 a2) 1 5 a3 1 4 = a2 := by (repeat (first | rw [hp_U1] | rw [hp_U2 (by omega)] | rw [hp_U3 (by omega)]))
        have u5 : hs_U (hs_U (hs_U Sc 1 3 a1) 1 4 a2) 1 5 a3 1 5 = a3 := by (repeat (first | rw [hp_U1] | rw [hp_U2 (by omega)] | rw [hp_U3 (by omega)]))
        have hR0 : hp_R n (hs_U (hs_U (hs_U Sc 1 3 a1) 1 4 a2) 1 5 a3) (hs_U Sm 100 0 0) := by
          refine hp_R_fr hR (fun i i1 i2 => ?_) (fun b hb => ?_) (fun i b i1 i2 i3 => hp_U2 i1) (fun b i1 i2 => hp_U3 (by omega))
          · funext b
            (repeat (first | rw [hp_U1] | rw [hp_U2 (by omega)] | rw [hp_U3 (by omega)]))
          · (repeat (first | rw [hp_U1] | rw [hp_U2 (by omega)] | rw [hp_U3 (by omega)]))
        obtain ⟨v, C, M, o1, o2, o3, o4⟩ := hp_sendB hf hn hR0 hp_U1 (by rw [u3]; exact r3) (by rw [u5]; exact r5)
        rw [u3] at o1
        rw [u3, u4, u5] at o2
        refine hp_x2 0 v (hs_U C 47 0 v) M ?_ ?_ o3 (fun _ => hp_U1) (hp_R_v o4 v)
        · unfold f_L_send f_X6_send f_X6_send_0
          rw [hc, hp_b2, if_pos rfl, hc2, hp_b2, if_pos rfl, hc3, hp_b2, if_pos rfl, hp_l, hp_l, hp_l, hp_ix (show f < hs_N 24 from hf), nI_clamp (show f < 2 ^ 31 by omega), o1]
          rfl
        · unfold f_X7_send f_X7_send_0
          rw [hm, hp_b2, if_pos rfl, hm2, hp_b2, if_pos rfl, hm3, hp_b2, if_pos rfl, hp_M35e]
          exact o2
      · refine bad ?_ ?_
        · unfold f_X6_send f_X6_send_0
          rw [hc, hp_b2, if_pos rfl, hc2, hp_b2, if_pos rfl, hc3, hp_b2, if_neg (by decide)]
          rfl
        · unfold f_X7_send f_X7_send_0
          rw [hm, hp_b2, if_pos rfl, hm2, hp_b2, if_pos rfl, hm3, hp_b2, if_neg (by decide)]
          exact m2
    · refine bad ?_ ?_
      · unfold f_X6_send f_X6_send_0
        rw [hc, hp_b2, if_pos rfl, hc2, hp_b2, if_neg (by decide)]
        rfl
      · unfold f_X7_send f_X7_send_0
        rw [hm, hp_b2, if_pos rfl, hm2, hp_b2, if_neg (by decide)]
        exact m2
  · refine hp_x2 1 0 Sc (hs_U Sm 100 0 1) ?_ ?_ hp_U1 (fun w => absurd w (by decide)) (hp_R_up (hp_R_t hR 1))
    · unfold f_L_send f_X6_send f_X6_send_0
      rw [hc, hp_b2, if_neg (by decide)]
      rfl
    · unfold f_X7_send f_X7_send_0
      rw [hm, hp_b2, if_neg (by decide), hp_M35e]
      unfold hp_M35
      rw [hp_U1, if_neg (by decide)]
theorem hp_sim_line (n : Nat) : hs_sim3 (hp_R n) (hp_R (n + 1)) f_X6_line f_X7_line := by
  intro Sc Sm hR
  obtain ⟨np, pr, hnp, l1, l2, _⟩ := hR.2.2.2.1
  refine ⟨nI np, Sc, hs_U Sm 100 0 0, ?_, ?_, hp_R_up (hp_R_t hR 0)⟩
  · unfold f_X6_line f_X6_line_0
    rw [l1]
  · unfold f_X7_line f_X7_line_0
    rw [hp_l, hp_U3 (by decide), l2]
