/-! ===== the calls that ask, and spoil ===== -/
theorem hp_pkt {np : Nat} (hnp : np ≤ 8) (x : Int32) {Sc Sm : hs_M} (l1 : Sc 4 1 = nI np) (l2 : Sm 100 16 = nI np) : (∃ k, k < np ∧ x = nI k ∧ f_X6_isNoPacket x Sc = some (0, Sc) ∧ f_X7_noPacket x Sm = some (0, Sm)) ∨ (f_X6_isNoPacket x Sc = some (1, Sc) ∧ f_X7_noPacket x Sm = some (1, Sm)) := by
  unfold f_X6_isNoPacket f_X6_isNoPacket_0 f_X6_isNoPacket_15 f_X6_isNoPacket_20 f_X7_noPacket f_X7_noPacket_0 f_X7_noPacket_12 f_X7_noPacket_17
  rw [hp_bg0, hp_bg1, hp_bg0, hp_bg1, l1, l2]
  rcases pk_ix x (n := np) (by omega) with h | h | ⟨k, hk, rfl⟩
  · rw [if_pos h, if_pos h]
    exact Or.inr ⟨rfl, rfl⟩
  · have h2 : ¬ x < nI np := fun w => by
      rw [Int32.lt_iff_toInt_lt] at w
      rw [Int32.le_iff_toInt_le] at h
      omega
    have h3 : ¬ x < 0 := fun w => by
      rw [Int32.lt_iff_toInt_lt] at w
      rw [Int32.le_iff_toInt_le, nI_toInt (by omega)] at h
      have e : (0 : Int32).toInt = 0 := rfl
      omega
    rw [if_neg h3, if_neg h3, if_neg h2, if_neg h2]
    exact Or.inr ⟨rfl, rfl⟩
  · rw [if_neg (nI_pos (by omega)), if_neg (nI_pos (by omega)), if_pos (nI_lt hk (by omega)), if_pos (nI_lt hk (by omega))]
    exact Or.inl ⟨k, hk, rfl, rfl, rfl⟩
theorem hp_byte {np : Nat} {pr : Nat → Nat} {Sc Sm : hs_M} (hL : hp_RL np pr Sc Sm) {k : Nat} (hk : k < np) (x : Int32) : (∃ i, x = nI i ∧ f_X6_isNoByte (nI k) x Sc = some (0, Sc) ∧ f_X7_noByte (nI k) x Sm = some (0, Sm) ∧ i < 17 ∧ Sc (pr k + 9) i = Sm 114 (20 * k + i) ∧ hp_in (Sm 114 (20 * k + i)) 256) ∨ (f_X6_isNoByte (nI k) x Sc = some (1, Sc) ∧ f_X7_noByte (nI k) x Sm = some (1, Sm)) := by
  obtain ⟨hnp, l1, l2, l3, l4, l5⟩ := hL
  obtain ⟨l, q1, q2, q3, q4, q5⟩ := l5 k hk
  have hp := l3 k (by omega)
  have hpk : f_X7_noPacket (nI k) Sm = some (0, Sm) := by
    rcases hp_pkt hnp (nI k) l1 l2 with ⟨_, _, _, _, h⟩ | ⟨h, _⟩
    · exact h
    · exfalso
      unfold f_X6_isNoPacket f_X6_isNoPacket_0 f_X6_isNoPacket_20 at h
      rw [if_neg (nI_pos (by omega)), l1, if_pos (nI_lt hk (by omega)), hp_bg0] at h
      have := (Prod.mk.inj (Option.some.inj h)).1
      exact absurd this (by decide)
  unfold f_X6_isNoByte f_X6_isNoByte_0 f_X6_isNoByte_20 f_X6_isNoByte_25 f_X7_noByte f_X7_noByte_0 f_X7_noByte_22 f_X7_noByte_27
  rw [hpk, hp_b2, if_pos rfl, hp_bg0, hp_bg1, hp_bg0, hp_bg1, hp_ix (show k < hs_N 5 by show k < 9; omega), nI_clamp (show k < 2 ^ 31 by omega), hp_l, hp.2, nI_clamp (by omega), hp_kg (hp_K3 hp.1), hp_ix (show k < hs_N 113 by show k < 8; omega), q3, q4]
  rcases pk_ix x (n := l) (by omega) with h | h | ⟨i, hi, rfl⟩
  · rw [if_pos h, if_pos h]
    exact Or.inr ⟨rfl, rfl⟩
  · have h2 : ¬ x < nI l := fun w => by
      rw [Int32.lt_iff_toInt_lt] at w
      rw [Int32.le_iff_toInt_le] at h
      omega
    have h3 : ¬ x < 0 := fun w => by
      rw [Int32.lt_iff_toInt_lt] at w
      rw [Int32.le_iff_toInt_le, nI_toInt (by omega)] at h
      have e : (0 : Int32).toInt = 0 := rfl
      omega
    rw [if_neg h3, if_neg h3, if_neg h2, if_neg h2]
    exact Or.inr ⟨rfl, rfl⟩
  · rw [if_neg (nI_pos (by omega)), if_neg (nI_pos (by omega)), if_pos (nI_lt hi (by omega)), if_pos (nI_lt hi (by omega))]
    exact Or.inl ⟨i, rfl, rfl, rfl, by omega, (q5 i hi).1, (q5 i hi).2⟩
theorem hp_sim_size (n : Nat) (a0 : Int32) : hs_sim2 (hp_R n) (hp_R (n + 1)) (f_L_size a0) (f_X7_size a0) := by
  intro Sc Sm hR
  obtain ⟨np, pr, hL⟩ := hR.2.2.2.1
  obtain ⟨hnp, l1, l2, l3, l4, l5⟩ := id hL
  rcases hp_pkt hnp a0 l1 l2 with ⟨k, hk, rfl, hc, hm⟩ | ⟨hc, hm⟩
  · obtain ⟨l, q1, q2, q3, q4, q5⟩ := l5 k hk
    have hp := l3 k (by omega)
    refine hp_x2 0 (nI l) (hs_U Sc 47 0 (nI l)) (hs_U Sm 100 0 0) ?_ ?_ hp_U1 (fun _ => hp_U1) (hp_R_up (hp_R_v (hp_R_t hR 0) _))
    · unfold f_L_size f_X6_size f_X6_size_0
      rw [hc, hp_b2, if_pos rfl, hp_ix (show k < hs_N 5 by show k < 9; omega), nI_clamp (show k < 2 ^ 31 by omega), hp_l, hp.2, nI_clamp (by omega), hp_kg (hp_K3 hp.1), q3]
      rfl
    · unfold f_X7_size f_X7_size_0 f_X7_size_14 f_X7_size_34
      rw [hm, hp_b2, if_pos rfl, hp_l, hp_U1, if_pos rfl, hp_ix (show k < hs_N 113 by show k < 8; omega), nI_clamp (by omega), hp_U2 (by decide), q4]
  · refine hp_x2 1 0 Sc (hs_U Sm 100 0 1) ?_ ?_ hp_U1 (fun w => absurd w (by decide)) (hp_R_up (hp_R_t hR 1))
    · unfold f_L_size f_X6_size f_X6_size_0
      rw [hc, hp_b2, if_neg (by decide)]
      rfl
    · unfold f_X7_size f_X7_size_0 f_X7_size_14 f_X7_size_34
      rw [hm, hp_b2, if_neg (by decide), hp_l, hp_U1, if_neg (by decide)]
theorem hp_20 (k i : Nat) : (20 : Int32) * nI k + nI i = nI (20 * k + i) := by rw [show (20 : Int32) = nI 20 from rfl, pk_mul, nI_add]
theorem hp_noPkM {x y : Int32} {S : hs_M} (h : f_X7_noPacket x S = some (1, S)) : f_X7_noByte x y S = some (1, S) := by
  unfold f_X7_noByte f_X7_noByte_0 f_X7_noByte_22 f_X7_noByte_27
  rw [h, hp_b2, if_neg (by decide), hp_bg1]
theorem hp_sim_byteAt (n : Nat) (a0 a1 : Int32) : hs_sim2 (hp_R n) (hp_R (n + 1)) (f_L_byteAt a0 a1) (f_X7_byteAt a0 a1) := by
  intro Sc Sm hR
  obtain ⟨np, pr, hL⟩ := hR.2.2.2.1
  obtain ⟨hnp, l1, l2, l3, l4, l5⟩ := id hL
  have bad : (f_X6_byteAt a0 a1 Sc = some ((1, 0), Sc)) → f_X7_noByte a0 a1 Sm = some (1, Sm) → ∃ (k v : Int32) (Sc' Sm' Sm2 : hs_M), f_L_byteAt a0 a1 Sc = some (k, Sc') ∧ f_X7_byteAt a0 a1 Sm = some (v, Sm') ∧ f_X7_thrown Sm' = some (k, Sm2) ∧ (k = 0 → Sc' 47 0 = v) ∧ hp_R (n + 1) Sc' Sm2 := by
    intro e1 e2
    refine hp_x2 1 0 Sc (hs_U Sm 100 0 1) ?_ ?_ hp_U1 (fun w => absurd w (by decide)) (hp_R_up (hp_R_t hR 1))
    · unfold f_L_byteAt
      rw [e1]
      rfl
    · unfold f_X7_byteAt f_X7_byteAt_0 f_X7_byteAt_15 f_X7_byteAt_40
      rw [e2, hp_b2, if_neg (by decide), hp_l, hp_U1, if_neg (by decide)]
  rcases hp_pkt hnp a0 l1 l2 with ⟨k, hk, rfl, hc, hm⟩ | ⟨hc, hm⟩
  · have hp := l3 k (by omega)
    rcases hp_byte hL hk a1 with ⟨i, rfl, hc2, hm2, i17, b1, b2⟩ | ⟨hc2, hm2⟩
    · refine hp_x2 0 (Sm 114 (20 * k + i)) (hs_U Sc 47 0 (Sm 114 (20 * k + i))) (hs_U Sm 100 0 0) ?_ ?_ hp_U1 (fun _ => hp_U1) (hp_R_up (hp_R_v (hp_R_t hR 0) _))
      · unfold f_L_byteAt f_X6_byteAt f_X6_byteAt_0
        rw [hc, hp_b2, if_pos rfl, hc2, hp_b2, if_pos rfl, hp_ix (show k < hs_N 5 by show k < 9; omega), nI_clamp (show k < 2 ^ 31 by omega), hp_l, hp.2, nI_clamp (by omega), hp_kg (hp_K3 hp.1), hp_N17 hp.1, hp_ix i17, nI_clamp (by omega), b1]
        rfl
      · unfold f_X7_byteAt f_X7_byteAt_0 f_X7_byteAt_15 f_X7_byteAt_40
        rw [hm2, hp_b2, if_pos rfl, hp_l, hp_U1, if_pos rfl, hp_l, hp_20, hp_ix (show 20 * k + i < hs_N 114 by show _ < 160; omega), nI_clamp (by omega), hp_U2 (by decide)]
    · refine bad ?_ hm2
      unfold f_X6_byteAt f_X6_byteAt_0
      rw [hc, hp_b2, if_pos rfl, hc2, hp_b2, if_neg (by decide)]
      rfl
  · refine bad ?_ (hp_noPkM hm)
    unfold f_X6_byteAt f_X6_byteAt_0
    rw [hc, hp_b2, if_neg (by decide)]
    rfl
theorem hp_xor (a b : Nat) (ha : a < 256) (hb : b < 256) : nI a ^^^ nI b = nI (a ^^^ b) ∧ a ^^^ b < 256 := by
  have h : a ^^^ b < 2 ^ 8 := Nat.xor_lt_two_pow ha hb
  refine ⟨?_, h⟩
  apply Int32.toBitVec_inj.mp
  apply BitVec.eq_of_toNat_eq
  rw [pk_tn (by omega), Int32.toBitVec_xor, BitVec.toNat_xor, pk_tn (by omega), pk_tn (by omega)]
theorem hp_sim_spoil (n : Nat) (a0 a1 a2 : Int32) : hs_sim1 (hp_R n) (hp_R (n + 1)) (f_L_spoil a0 a1 a2) (f_X7_spoil a0 a1 a2) := by
  intro Sc Sm hR
  obtain ⟨np, pr, hL⟩ := hR.2.2.2.1
  obtain ⟨hnp, l1, l2, l3, l4, l5⟩ := id hL
  have bad : (f_X6_spoil a0 a1 a2 Sc = some ((1, 0), Sc)) → f_X7_noByte a0 a1 Sm = some (1, Sm) → ∃ (k : Int32) (Sc' Sm' Sm2 : hs_M), f_L_spoil a0 a1 a2 Sc = some (k, Sc') ∧ f_X7_spoil a0 a1 a2 Sm = some Sm' ∧ f_X7_thrown Sm' = some (k, Sm2) ∧ hp_R (n + 1) Sc' Sm2 := by
    intro e1 e2
    refine hp_x1 1 Sc (hs_U Sm 100 0 1) ?_ ?_ hp_U1 (hp_R_up (hp_R_t hR 1))
    · unfold f_L_spoil
      rw [e1]
      rfl
    · unfold f_X7_spoil f_X7_spoil_0 f_X7_spoil_30 f_X7_spoil_64
      rw [e2, hp_b2, if_neg (by decide), hp_l, hp_U1, if_neg (by decide)]
  rcases hp_pkt hnp a0 l1 l2 with ⟨k, hk, rfl, hc, hm⟩ | ⟨hc, hm⟩
  · have hp := l3 k (by omega)
    rcases hp_byte hL hk a1 with ⟨i, rfl, hc2, hm2, i17, b1, b2⟩ | ⟨hc2, hm2⟩
    · have bad2 : (f_X6_spoil (nI k) (nI i) a2 Sc = some ((2, 0), Sc)) → f_X7_spoil (nI k) (nI i) a2 Sm = some (hs_U Sm 100 0 2) → ∃ (k_1 : Int32) (Sc' Sm' Sm2 : hs_M), f_L_spoil (nI k) (nI i) a2 Sc = some (k_1, Sc') ∧ f_X7_spoil (nI k) (nI i) a2 Sm = some Sm' ∧ f_X7_thrown Sm' = some (k_1, Sm2) ∧ hp_R (n + 1) Sc' Sm2 := by
        intro e1 e2
        refine hp_x1 2 Sc (hs_U Sm 100 0 2) ?_ e2 hp_U1 (hp_R_up (hp_R_t hR 2))
        unfold f_L_spoil
        rw [e1]
        rfl
      have bM : f_X7_spoil_30 (nI k) (nI i) a2 2 Sm = some (hs_U Sm 100 0 2) := by
        unfold f_X7_spoil_30 f_X7_spoil_64
        rw [hp_l, hp_U1, if_neg (by decide)]
      by_cases q1 : a2 < 0
      · refine bad2 ?_ ?_
        · unfold f_X6_spoil f_X6_spoil_0
          rw [hc, hp_b2, if_pos rfl, hc2, hp_b2, if_pos rfl, if_pos q1]
          rfl
        · unfold f_X7_spoil f_X7_spoil_0 f_X7_spoil_25
          rw [hm2, hp_b2, if_pos rfl, if_pos q1]
          exact bM
      · by_cases q2 : a2 ≤ 255
        · obtain ⟨m, hm5, rfl⟩ := hp_of (n := 255) rfl q1 q2
          obtain ⟨b, hb, eb⟩ := b2
          have hx := hp_xor b m hb hm5
          refine hp_x1 0 (hs_U Sc (pr k + 9) i (nI (b ^^^ m))) (hs_U (hs_U Sm 100 0 0) 114 (20 * k + i) (nI (b ^^^ m))) ?_ ?_ ?_ ?_
          · unfold f_L_spoil f_X6_spoil f_X6_spoil_0
            rw [hc, hp_b2, if_pos rfl, hc2, hp_b2, if_pos rfl, if_neg q1, if_pos q2, hp_ix (show k < hs_N 5 by show k < 9; omega), nI_clamp (show k < 2 ^ 31 by omega), hp_l, hp.2, nI_clamp (show pr k < 2 ^ 31 by omega), hp_kg (hp_K3 hp.1), hp_N17 hp.1, hp_ix i17, hp_ix i17, nI_clamp (by omega), b1, eb, hx.1]
            rfl
          · unfold f_X7_spoil f_X7_spoil_0 f_X7_spoil_30 f_X7_spoil_64
            rw [hm2, hp_b2, if_pos rfl, if_neg q1, if_pos q2, hp_l, hp_U1, if_pos rfl, hp_l, hp_20, hp_ix (show 20 * k + i < hs_N 114 by show _ < 160; omega), hp_ix (show 20 * k + i < hs_N 114 by show _ < 160; omega), nI_clamp (by omega), hp_U2 (by decide), eb, hx.1]
            rfl
          · (repeat (first | rw [hp_U1] | rw [hp_U2 (by omega)] | rw [hp_U3 (by omega)]))
          · obtain ⟨⟨⟨a1', a2'⟩, ⟨a3, a4⟩, a5⟩, hRS, hRR, _, hRC, ⟨pl, pt, g1, g2, g3, g4⟩⟩ := hp_R_up hR
            have cE : ∀ j, j ≠ pr k + 9 → hs_U Sc (pr k + 9) i (nI (b ^^^ m)) j = Sc j := fun j hj => by funext b; exact hp_U2 hj
            have mE : ∀ j b', j ≠ 114 → (j ≠ 100 ∨ b' ≠ 0) → hs_U (hs_U Sm 100 0 0) 114 (20 * k + i) (nI (b ^^^ m)) j b' = Sm j b' := by
              intro j b' hj hj2
              by_cases h100 : j = 100
              · have h0 : b' ≠ 0 := by omega
                (repeat (first | rw [hp_U1] | rw [hp_U2 (by omega)] | rw [hp_U3 (by omega)]))
              · (repeat (first | rw [hp_U1] | rw [hp_U2 (by omega)] | rw [hp_U3 (by omega)]))
            refine ⟨⟨⟨?_, ?_⟩, ⟨?_, ?_⟩, ?_⟩, fun g hg => ?_, fun g hg => ?_, ⟨np, pr, hnp, ?_, ?_, fun j hj => ⟨(l3 j hj).1, ?_⟩, l4, fun j hj => ?_⟩, fun j hj => ?_, ⟨pl, pt, g1, ?_, ?_, fun i hi => ?_⟩⟩
            · rw [cE 1 (by omega), mE 100 1 (by decide) (by decide)]; exact a1'
            · rw [mE 100 1 (by decide) (by decide)]; exact a2'
            · rw [cE 1 (by omega), mE 100 2 (by decide) (by decide)]; exact a3
            · rw [mE 100 2 (by decide) (by decide)]; exact a4
            · rw [cE 1 (by omega), mE 100 3 (by decide) (by decide)]; exact a5
            · exact hp_RS_fr (hRS g hg) (cE _ (by omega)) (cE _ (by omega)) (cE _ (by omega)) (fun i i1 i2 => mE _ _ (by omega) (by omega)) (fun j _ => mE _ _ (by omega) (by omega))
            · exact hp_RR_fr (hRR g hg) (cE _ (by omega)) (cE _ (by omega)) (fun i i1 i2 => mE _ _ (by omega) (by omega))
            · rw [cE 4 (by omega)]; exact l1
            · rw [mE 100 16 (by decide) (by decide)]; exact l2
            · rw [cE 5 (by omega)]; exact (l3 j hj).2
            · have hpj := (l3 j (by omega)).1
              by_cases hjk : j = k
              · subst hjk
                obtain ⟨l, q1, q2, q3, q4, q5⟩ := l5 j hj
                refine ⟨l, q1, q2, ?_, ?_, fun i' hi' => ?_⟩
                · rw [cE _ (by omega)]; exact q3
                · rw [mE 113 j (by decide) (by omega)]; exact q4
                · by_cases hii : i' = i
                  · subst hii
                    rw [hp_U1, hp_U1]
                    exact ⟨rfl, _, hx.2, rfl⟩
                  · rw [hp_U3 hii, hp_U3 (by omega), hp_U2 (by decide)]
                    exact q5 i' hi'
              · have hne : pr j ≠ pr k := fun w => hjk (l4 j k (by omega) (by omega) w)
                refine hp_RK_fr (l5 j hj) ?_ (cE _ (by omega)) (mE 113 j (by decide) (by omega)) (fun b' h1 h2 => ?_)
                · rw [cE _ (by omega)]
                · rw [hp_U3 (by omega), hp_U2 (by decide)]
            · rw [cE 46 (by omega), mE 125 j (by decide) (by omega)]; exact hRC j hj
            · rw [cE 0 (by omega)]; exact g2
            · rw [cE 0 (by omega)]; exact g3
            · rw [cE pl (by omega), mE 124 i (by decide) (by omega)]; exact g4 i hi
        · refine bad2 ?_ ?_
          · unfold f_X6_spoil f_X6_spoil_0
            rw [hc, hp_b2, if_pos rfl, hc2, hp_b2, if_pos rfl, if_neg q1, if_neg q2]
            rfl
          · unfold f_X7_spoil f_X7_spoil_0 f_X7_spoil_25
            rw [hm2, hp_b2, if_pos rfl, if_neg q1, if_neg q2]
            exact bM
    · refine bad ?_ hm2
      unfold f_X6_spoil f_X6_spoil_0
      rw [hc, hp_b2, if_pos rfl, hc2, hp_b2, if_neg (by decide)]
      rfl
  · refine bad ?_ (hp_noPkM hm)
    unfold f_X6_spoil f_X6_spoil_0
    rw [hc, hp_b2, if_neg (by decide)]
    rfl
theorem hp_sim_made (n : Nat) (a0 : Int32) : hs_sim2 (hp_R n) (hp_R (n + 1)) (f_L_made a0) (f_X7_made a0) := by
  intro Sc Sm hR
  obtain ⟨pl, pt, g1, g2, g3, g4⟩ := hR.2.2.2.2.2
  have hK : hs_K pl = 1 := by rcases g1 with ⟨rfl, _⟩ | ⟨rfl, _⟩ <;> rfl
  have bad : (f_X6_made a0 Sc = some ((1, 0), Sc)) → f_X7_made a0 Sm = some (0, hs_U Sm 100 0 1) → ∃ (k v : Int32) (Sc' Sm' Sm2 : hs_M), f_L_made a0 Sc = some (k, Sc') ∧ f_X7_made a0 Sm = some (v, Sm') ∧ f_X7_thrown Sm' = some (k, Sm2) ∧ (k = 0 → Sc' 47 0 = v) ∧ hp_R (n + 1) Sc' Sm2 := by
    intro e1 e2
    refine hp_x2 1 0 Sc (hs_U Sm 100 0 1) ?_ e2 hp_U1 (fun w => absurd w (by decide)) (hp_R_up (hp_R_t hR 1))
    unfold f_L_made
    rw [e1]
    rfl
  have bM : f_X7_made_16 a0 1 Sm = some (0, hs_U Sm 100 0 1) := by
    unfold f_X7_made_16 f_X7_made_36
    rw [hp_l, hp_U1, if_neg (by decide)]
  rcases pk_ix a0 (n := 11) (by decide) with h | h | ⟨i, hi, rfl⟩
  · refine bad ?_ ?_
    · unfold f_X6_made f_X6_made_0
      rw [if_pos h]
      rfl
    · unfold f_X7_made f_X7_made_0 f_X7_made_11
      rw [if_pos h]
      exact bM
  · obtain ⟨h1, h2, h3⟩ := hp_big (N := 10) (by decide) h
    refine bad ?_ ?_
    · unfold f_X6_made f_X6_made_0
      rw [if_neg h1, if_neg (show ¬ a0 < 11 from h2)]
      rfl
    · unfold f_X7_made f_X7_made_0 f_X7_made_11
      rw [if_neg h1, if_neg (show ¬ a0 ≤ 10 from h3)]
      exact bM
  · refine hp_x2 0 (Sm 124 i) (hs_U Sc 47 0 (Sm 124 i)) (hs_U Sm 100 0 0) ?_ ?_ hp_U1 (fun _ => hp_U1) (hp_R_up (hp_R_v (hp_R_t hR 0) _))
    · unfold f_L_made f_X6_made f_X6_made_0
      rw [if_neg (nI_pos (by omega)), if_pos (show nI i < 11 from nI_lt (b := 11) hi (by decide)), hp_l, g2, nI_clamp (by omega), hp_kg hK, hp_cPart pl Sc hi, hp_b2, g4 i hi]
      rfl
    · unfold f_X7_made f_X7_made_0 f_X7_made_16 f_X7_made_36
      rw [if_neg (nI_pos (by omega)), if_pos (show nI i ≤ 10 from nI_le (b := 10) (by omega) (by decide)), hp_l, hp_U1, if_pos rfl, hp_ix (show i < hs_N 124 from hi), nI_clamp (by omega), hp_U2 (by decide)]
theorem hp_sim_count (n : Nat) (a0 : Int32) : hs_sim2 (hp_R n) (hp_R (n + 1)) (f_L_count a0) (f_X7_count a0) := by
  intro Sc Sm hR
  have hC := hR.2.2.2.2.1
  have bad : (f_X6_count a0 Sc = some ((2, 0), Sc)) → f_X7_count a0 Sm = some (0, hs_U Sm 100 0 1) → ∃ (k v : Int32) (Sc' Sm' Sm2 : hs_M), f_L_count a0 Sc = some (k, Sc') ∧ f_X7_count a0 Sm = some (v, Sm') ∧ f_X7_thrown Sm' = some (k, Sm2) ∧ (k = 0 → Sc' 47 0 = v) ∧ hp_R (n + 1) Sc' Sm2 := by
    intro e1 e2
    refine hp_x2 1 0 Sc (hs_U Sm 100 0 1) ?_ e2 hp_U1 (fun w => absurd w (by decide)) (hp_R_up (hp_R_t hR 1))
    unfold f_L_count
    rw [e1]
    rfl
  have bM : f_X7_count_16 a0 1 Sm = some (0, hs_U Sm 100 0 1) := by
    unfold f_X7_count_16 f_X7_count_36
    rw [hp_l, hp_U1, if_neg (by decide)]
  rcases pk_ix a0 (n := 11) (by decide) with h | h | ⟨i, hi, rfl⟩
  · refine bad ?_ ?_
    · unfold f_X6_count f_X6_count_0
      rw [if_pos h]
      rfl
    · unfold f_X7_count f_X7_count_0 f_X7_count_11
      rw [if_pos h]
      exact bM
  · obtain ⟨h1, h2, h3⟩ := hp_big (N := 10) (by decide) h
    refine bad ?_ ?_
    · unfold f_X6_count f_X6_count_0
      rw [if_neg h1, if_neg (show ¬ a0 < 11 from h2)]
      rfl
    · unfold f_X7_count f_X7_count_0 f_X7_count_11
      rw [if_neg h1, if_neg (show ¬ a0 ≤ 10 from h3)]
      exact bM
  · refine hp_x2 0 (Sm 125 i) (hs_U Sc 47 0 (Sm 125 i)) (hs_U Sm 100 0 0) ?_ ?_ hp_U1 (fun _ => hp_U1) (hp_R_up (hp_R_v (hp_R_t hR 0) _))
    · unfold f_L_count f_X6_count f_X6_count_0
      rw [if_neg (nI_pos (by omega)), if_pos (show nI i < 11 from nI_lt (b := 11) hi (by decide)), hp_ix (show i < hs_N 46 from hi), nI_clamp (by omega), hC i hi]
      rfl
    · unfold f_X7_count f_X7_count_0 f_X7_count_16 f_X7_count_36
      rw [if_neg (nI_pos (by omega)), if_pos (show nI i ≤ 10 from nI_le (b := 10) (by omega) (by decide)), hp_l, hp_U1, if_pos rfl, hp_ix (show i < hs_N 125 from hi), nI_clamp (by omega), hp_U2 (by decide)]
theorem hp_sim_sender (n : Nat) (a0 a1 : Int32) : hs_sim2 (hp_R n) (hp_R (n + 1)) (f_L_sender a0 a1) (f_X7_sender a0 a1) := by
  intro Sc Sm hR
  rcases hp_flow a0 with ⟨f, hf, rfl, hc, hm⟩ | ⟨hc, hm⟩
  · have hRS := hR.2.1 f hf
    have bad : (f_X6_sender (nI f) a1 Sc = some ((2, 0), Sc)) → f_X7_sender (nI f) a1 Sm = some (0, hs_U Sm 100 0 2) → ∃ (k v : Int32) (Sc' Sm' Sm2 : hs_M), f_L_sender (nI f) a1 Sc = some (k, Sc') ∧ f_X7_sender (nI f) a1 Sm = some (v, Sm') ∧ f_X7_thrown Sm' = some (k, Sm2) ∧ (k = 0 → Sc' 47 0 = v) ∧ hp_R (n + 1) Sc' Sm2 := by
      intro e1 e2
      refine hp_x2 2 0 Sc (hs_U Sm 100 0 2) ?_ e2 hp_U1 (fun w => absurd w (by decide)) (hp_R_up (hp_R_t hR 2))
      unfold f_L_sender
      rw [e1]
      rfl
    have bM : f_X7_sender_27 (nI f) a1 2 Sm = some (0, hs_U Sm 100 0 2) := by
      unfold f_X7_sender_27
      rw [hp_l, hp_U1, if_neg (by decide)]
    have badC : a1 ≠ 0 → a1 ≠ 1 → a1 ≠ 2 → a1 ≠ 3 → a1 ≠ 4 → f_X6_sender (nI f) a1 Sc = some ((2, 0), Sc) := by
      intro n0 n1 n2 n3 n4
      unfold f_X6_sender f_X6_sender_0
      rw [hc, hp_b2, if_pos rfl, hp_ix (show f < hs_N 24 from hf), if_neg n0, if_neg n1, if_neg n2, if_neg n3, if_neg n4]
    have good : ∀ (i : Nat) (v : Int32), i < 5 → a1 = nI i → f_X6_sender (nI f) a1 Sc = some ((0, v), Sc) → (∀ S : hs_M, (∀ i j, i ≠ 100 → S i j = Sm i j) → S 100 0 = 0 → f_X7_sender_27 (nI f) a1 0 Sm = some (v, hs_U Sm 100 0 0)) → ∃ (k v : Int32) (Sc' Sm' Sm2 : hs_M), f_L_sender (nI f) a1 Sc = some (k, Sc') ∧ f_X7_sender (nI f) a1 Sm = some (v, Sm') ∧ f_X7_thrown Sm' = some (k, Sm2) ∧ (k = 0 → Sc' 47 0 = v) ∧ hp_R (n + 1) Sc' Sm2 := by
      intro i v hi e e1 e2
      refine hp_x2 0 v (hs_U Sc 47 0 v) (hs_U Sm 100 0 0) ?_ ?_ hp_U1 (fun _ => hp_U1) (hp_R_up (hp_R_v (hp_R_t hR 0) _))
      · unfold f_L_sender
        rw [e1]
        rfl
      · unfold f_X7_sender f_X7_sender_0
        rw [hm, hp_b2, if_pos rfl, if_neg (by rw [e]; exact nI_pos (by omega)), if_pos (show a1 ≤ 4 by rw [e]; exact nI_le (b := 4) (by omega) (by decide))]
        exact e2 (hs_U Sm 100 0 0) (fun i j h => hp_U2 h) hp_U1
    rcases pk_ix a1 (n := 5) (by decide) with h | h | ⟨i, hi, rfl⟩
    · refine bad (badC ?_ ?_ ?_ ?_ ?_) ?_
      · rintro rfl; exact absurd h (by decide)
      · rintro rfl; exact absurd h (by decide)
      · rintro rfl; exact absurd h (by decide)
      · rintro rfl; exact absurd h (by decide)
      · rintro rfl; exact absurd h (by decide)
      · unfold f_X7_sender f_X7_sender_0 f_X7_sender_22
        rw [hm, hp_b2, if_pos rfl, if_pos h]
        exact bM
    · obtain ⟨h1, h2, h3⟩ := hp_big (N := 4) (by decide) h
      refine bad (badC ?_ ?_ ?_ ?_ ?_) ?_
      · rintro rfl; exact absurd h (by decide)
      · rintro rfl; exact absurd h (by decide)
      · rintro rfl; exact absurd h (by decide)
      · rintro rfl; exact absurd h (by decide)
      · rintro rfl; exact absurd h (by decide)
      · unfold f_X7_sender f_X7_sender_0 f_X7_sender_22
        rw [hm, hp_b2, if_pos rfl, if_neg h1, if_neg (show ¬ a1 ≤ 4 from h3)]
        exact bM
    · obtain ⟨⟨s1, _⟩, ⟨s2, _⟩, s3, s4, ⟨s5, _⟩, ⟨x0, x1, x2, x3, x4⟩, _⟩ := hRS
      have hcc : ∀ i : Nat, f_X6_sender (nI f) (nI i) Sc = (if nI i = 0 then some ((0, (Sc (25 + f) 2)), Sc) else (if nI i = 1 then some ((0, (Sc (25 + f) 3)), Sc) else (if nI i = 2 then some ((0, (Sc (25 + f) 4)), Sc) else (if nI i = 3 then some ((0, (Sc (29 + f) 3)), Sc) else (if nI i = 4 then some ((0, (Sc (29 + f) 4)), Sc) else some ((2, 0), Sc)))))) := by
        intro i
        unfold f_X6_sender f_X6_sender_0
        rw [hc, hp_b2, if_pos rfl, hp_ix (show f < hs_N 24 from hf), nI_clamp (show f < 2 ^ 31 by omega), show 25 + f + 4 = 29 + f by omega]
      have hmm : ∀ i : Nat, f_X7_sender_27 (nI f) (nI i) 0 Sm = (if nI i = 0 then some (Sm 108 f, hs_U Sm 100 0 0) else (if nI i = 1 then some (Sm 109 f, hs_U Sm 100 0 0) else (if nI i = 2 then some (Sm 110 f, hs_U Sm 100 0 0) else (if nI i = 3 then some (Sm 106 f, hs_U Sm 100 0 0) else some (Sm 107 f, hs_U Sm 100 0 0))))) := by
        intro i
        unfold f_X7_sender_27 f_X7_sender_100
        rw [hp_l, hp_U1, if_pos rfl, hp_ix (show f < hs_N 108 from hf), hp_ix (show f < hs_N 109 from hf), hp_ix (show f < hs_N 110 from hf), hp_ix (show f < hs_N 106 from hf), hp_ix (show f < hs_N 107 from hf), nI_clamp (show f < 2 ^ 31 by omega)]
        rfl
      rcases (show i = 0 ∨ i = 1 ∨ i = 2 ∨ i = 3 ∨ i = 4 by omega) with rfl | rfl | rfl | rfl | rfl
      · exact good 0 (Sm 108 f) (by decide) rfl ((hcc 0).trans (by rw [if_pos (by rfl), s2])) (fun _ _ _ => (hmm 0).trans rfl)
      · exact good 1 (Sm 109 f) (by decide) rfl ((hcc 1).trans (by rw [if_neg (by decide), if_pos (by rfl), s3])) (fun _ _ _ => (hmm 1).trans rfl)
      · exact good 2 (Sm 110 f) (by decide) rfl ((hcc 2).trans (by rw [if_neg (by decide), if_neg (by decide), if_pos (by rfl), s4])) (fun _ _ _ => (hmm 2).trans rfl)
      · exact good 3 (Sm 106 f) (by decide) rfl ((hcc 3).trans (by rw [if_neg (by decide), if_neg (by decide), if_neg (by decide), if_pos (by rfl), x3])) (fun _ _ _ => (hmm 3).trans rfl)
      · exact good 4 (Sm 107 f) (by decide) rfl ((hcc 4).trans (by rw [if_neg (by decide), if_neg (by decide), if_neg (by decide), if_neg (by decide), if_pos (by rfl), x4])) (fun _ _ _ => (hmm 4).trans rfl)
  · refine hp_x2 1 0 Sc (hs_U Sm 100 0 1) ?_ ?_ hp_U1 (fun w => absurd w (by decide)) (hp_R_up (hp_R_t hR 1))
    · unfold f_L_sender f_X6_sender f_X6_sender_0
      rw [hc, hp_b2, if_neg (by decide)]
      rfl
    · unfold f_X7_sender f_X7_sender_0 f_X7_sender_27
      rw [hm, hp_b2, if_neg (by decide), hp_l, hp_U1, if_neg (by decide)]
theorem hp_sim_receiver (n : Nat) (a0 a1 : Int32) : hs_sim2 (hp_R n) (hp_R (n + 1)) (f_L_receiver a0 a1) (f_X7_receiver a0 a1) := by
  intro Sc Sm hR
  rcases hp_flow a0 with ⟨f, hf, rfl, hc, hm⟩ | ⟨hc, hm⟩
  · have hRR := hR.2.2.1 f hf
    have bad : (f_X6_receiver (nI f) a1 Sc = some ((2, 0), Sc)) → f_X7_receiver (nI f) a1 Sm = some (0, hs_U Sm 100 0 2) → ∃ (k v : Int32) (Sc' Sm' Sm2 : hs_M), f_L_receiver (nI f) a1 Sc = some (k, Sc') ∧ f_X7_receiver (nI f) a1 Sm = some (v, Sm') ∧ f_X7_thrown Sm' = some (k, Sm2) ∧ (k = 0 → Sc' 47 0 = v) ∧ hp_R (n + 1) Sc' Sm2 := by
      intro e1 e2
      refine hp_x2 2 0 Sc (hs_U Sm 100 0 2) ?_ e2 hp_U1 (fun w => absurd w (by decide)) (hp_R_up (hp_R_t hR 2))
      unfold f_L_receiver
      rw [e1]
      rfl
    have bM : f_X7_receiver_27 (nI f) a1 2 Sm = some (0, hs_U Sm 100 0 2) := by
      unfold f_X7_receiver_27
      rw [hp_l, hp_U1, if_neg (by decide)]
    have badC : a1 ≠ 0 → a1 ≠ 1 → a1 ≠ 2 → a1 ≠ 3 → f_X6_receiver (nI f) a1 Sc = some ((2, 0), Sc) := by
      intro n0 n1 n2 n3
      unfold f_X6_receiver f_X6_receiver_0
      rw [hc, hp_b2, if_pos rfl, hp_ix (show f < hs_N 37 from hf), if_neg n0, if_neg n1, if_neg n2, if_neg n3]
    have good : ∀ (i : Nat) (v : Int32), i < 4 → a1 = nI i → f_X6_receiver (nI f) a1 Sc = some ((0, v), Sc) → f_X7_receiver_27 (nI f) a1 0 Sm = some (v, hs_U Sm 100 0 0) → ∃ (k v : Int32) (Sc' Sm' Sm2 : hs_M), f_L_receiver (nI f) a1 Sc = some (k, Sc') ∧ f_X7_receiver (nI f) a1 Sm = some (v, Sm') ∧ f_X7_thrown Sm' = some (k, Sm2) ∧ (k = 0 → Sc' 47 0 = v) ∧ hp_R (n + 1) Sc' Sm2 := by
      intro i v hi e e1 e2
      refine hp_x2 0 v (hs_U Sc 47 0 v) (hs_U Sm 100 0 0) ?_ ?_ hp_U1 (fun _ => hp_U1) (hp_R_up (hp_R_v (hp_R_t hR 0) _))
      · unfold f_L_receiver
        rw [e1]
        rfl
      · unfold f_X7_receiver f_X7_receiver_0
        rw [hm, hp_b2, if_pos rfl, if_neg (by rw [e]; exact nI_pos (by omega)), if_pos (show a1 ≤ 3 by rw [e]; exact nI_le (b := 3) (by omega) (by decide))]
        exact e2
    rcases pk_ix a1 (n := 4) (by decide) with h | h | ⟨i, hi, rfl⟩
    · refine bad (badC ?_ ?_ ?_ ?_) ?_
      · rintro rfl; exact absurd h (by decide)
      · rintro rfl; exact absurd h (by decide)
      · rintro rfl; exact absurd h (by decide)
      · rintro rfl; exact absurd h (by decide)
      · unfold f_X7_receiver f_X7_receiver_0 f_X7_receiver_22
        rw [hm, hp_b2, if_pos rfl, if_pos h]
        exact bM
    · obtain ⟨h1, h2, h3⟩ := hp_big (N := 3) (by decide) h
      refine bad (badC ?_ ?_ ?_ ?_) ?_
      · rintro rfl; exact absurd h (by decide)
      · rintro rfl; exact absurd h (by decide)
      · rintro rfl; exact absurd h (by decide)
      · rintro rfl; exact absurd h (by decide)
      · unfold f_X7_receiver f_X7_receiver_0 f_X7_receiver_22
        rw [hm, hp_b2, if_pos rfl, if_neg h1, if_neg (show ¬ a1 ≤ 3 from h3)]
        exact bM
    · obtain ⟨⟨s1, _⟩, s2, s3, s4, _⟩ := hRR
      have hcc : ∀ i : Nat, f_X6_receiver (nI f) (nI i) Sc = (if nI i = 0 then some ((0, (Sc (38 + f) 1)), Sc) else (if nI i = 1 then some ((0, (Sc (38 + f) 2)), Sc) else (if nI i = 2 then some ((0, (Sc (38 + f) 3)), Sc) else (if nI i = 3 then some ((0, (Sc (38 + f) 4)), Sc) else some ((2, 0), Sc))))) := by
        intro i
        unfold f_X6_receiver f_X6_receiver_0
        rw [hc, hp_b2, if_pos rfl, hp_ix (show f < hs_N 37 from hf), nI_clamp (show f < 2 ^ 31 by omega)]
      have hmm : ∀ i : Nat, f_X7_receiver_27 (nI f) (nI i) 0 Sm = (if nI i = 0 then some (Sm 115 f, hs_U Sm 100 0 0) else (if nI i = 1 then some (Sm 121 f, hs_U Sm 100 0 0) else (if nI i = 2 then some (Sm 122 f, hs_U Sm 100 0 0) else some (Sm 123 f, hs_U Sm 100 0 0)))) := by
        intro i
        unfold f_X7_receiver_27 f_X7_receiver_86
        rw [hp_l, hp_U1, if_pos rfl, hp_ix (show f < hs_N 115 from hf), hp_ix (show f < hs_N 121 from hf), hp_ix (show f < hs_N 122 from hf), hp_ix (show f < hs_N 123 from hf), nI_clamp (show f < 2 ^ 31 by omega)]
        rfl
      rcases (show i = 0 ∨ i = 1 ∨ i = 2 ∨ i = 3 by omega) with rfl | rfl | rfl | rfl
      · exact good 0 (Sm 115 f) (by decide) rfl ((hcc 0).trans (by rw [if_pos (by rfl), s1])) ((hmm 0).trans rfl)
      · exact good 1 (Sm 121 f) (by decide) rfl ((hcc 1).trans (by rw [if_neg (by decide), if_pos (by rfl), s2])) ((hmm 1).trans rfl)
      · exact good 2 (Sm 122 f) (by decide) rfl ((hcc 2).trans (by rw [if_neg (by decide), if_neg (by decide), if_pos (by rfl), s3])) ((hmm 2).trans rfl)
      · exact good 3 (Sm 123 f) (by decide) rfl ((hcc 3).trans (by rw [if_neg (by decide), if_neg (by decide), if_neg (by decide), if_pos (by rfl), s4])) ((hmm 3).trans rfl)
  · refine hp_x2 1 0 Sc (hs_U Sm 100 0 1) ?_ ?_ hp_U1 (fun w => absurd w (by decide)) (hp_R_up (hp_R_t hR 1))
    · unfold f_L_receiver f_X6_receiver f_X6_receiver_0
      rw [hc, hp_b2, if_neg (by decide)]
      rfl
    · unfold f_X7_receiver f_X7_receiver_0 f_X7_receiver_27
      rw [hm, hp_b2, if_neg (by decide), hp_l, hp_U1, if_neg (by decide)]
