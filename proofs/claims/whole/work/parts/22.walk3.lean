set_option maxRecDepth 100000 in
set_option maxHeartbeats 4000000 in
theorem t_X4_fits_44 {X : hs_T} (C : hs_C X 0 RX4 cX4_fits 4 3) {res : Int32 × hs_M} (hf : hs_FB X cX4_fits res) (y0 : Int32) (S : hs_M) (h : f_X4_fits_44 y0 S = some res) : hs_Z X 4 S [] [.int y0] 44 := by
  unfold f_X4_fits_44 at h
  exact hs_iretb C hf h dX4_fits_44
set_option maxRecDepth 100000 in
set_option maxHeartbeats 4000000 in
theorem t_X4_fits_0 {X : hs_T} (C : hs_C X 0 RX4 cX4_fits 4 3) {res : Int32 × hs_M} (hf : hs_FB X cX4_fits res) (p0 : Nat) (gp0 : hs_K p0 = 4) (p1 : Nat) (gp1 : hs_K p1 = 3) (p2 : Nat) (gp2 : hs_K p2 = 1) (x3 : Int32) (S : hs_M) (h : f_X4_fits_0 p0 p1 p2 x3 S = some res) : hs_Z X 4 S [(0, .ref (hs_q X p0)), (1, .ref (hs_q X p1)), (2, .ref (hs_q X p2)), (3, .int x3)] [] 0 := by
  unfold f_X4_fits_0 at h
  refine hs_aload_n C dX4_fits_0 0 rfl rfl ?_
  refine gf_X4_12 C gp0 dX4_fits_1 ?_
  refine hs_aload_n C dX4_fits_4 2 rfl rfl ?_
  refine hs_iload_n C dX4_fits_5 3 rfl rfl ?_
  obtain ⟨S_1, hc_2, h⟩ := hs_b1_s h
  refine cs_X4_104 C (hs_k40 gp0) (m_X0_complete (p0 + 4) (hs_k40 gp0) p2 gp2 x3 S hc_2) (by decide) (Nat.le_of_ble_eq_true rfl) dX4_fits_6 ?_
  refine hs_aload_n C dX4_fits_9 2 rfl rfl ?_
  refine hs_aload_n C dX4_fits_10 1 rfl rfl ?_
  obtain ⟨r_5, S_3, hc_4, h⟩ := hs_b2_s h
  refine cs_X4_107 C gp1 (m_X3_markTold p1 gp1 S_1 hc_4) (by decide) (Nat.le_of_ble_eq_true rfl) dX4_fits_11 ?_
  refine pf_X4_111 C gp2 h dX4_fits_14 (fun S_6 h => ?_)
  refine hs_aload_n C dX4_fits_17 2 rfl rfl ?_
  refine hs_aload_n C dX4_fits_18 1 rfl rfl ?_
  refine gf_X4_22 C gp1 dX4_fits_19 ?_
  refine hs_aload_n C dX4_fits_22 0 rfl rfl ?_
  refine gf_X4_12 C gp0 dX4_fits_23 ?_
  refine gf_X4_46 C (hs_k40 gp0) dX4_fits_26 ?_
  obtain ⟨r_9, S_7, hc_8, h⟩ := hs_b2_s h
  refine cs_X4_68 C gp2 (m_X1_sumFor p2 gp2 (S_6 p1 3) (S_6 (p0 + 4) 2) S_6 hc_8) (by decide) (Nat.le_of_ble_eq_true rfl) dX4_fits_29 ?_
  refine hs_aload_n C dX4_fits_32 1 rfl rfl ?_
  obtain ⟨r_12, S_10, hc_11, h⟩ := hs_b2_s h
  refine cs_X4_72 C gp1 (m_X3_sumTold p1 gp1 S_7 hc_11) (by decide) (Nat.le_of_ble_eq_true rfl) dX4_fits_33 ?_
  refine hs_icmp_ne (tgt := 43) C dX4_fits_36 (by decide) h (fun h => ?_) (fun h => ?_)
  · skip
    refine hs_iconst (v := 0) C dX4_fits_43 (by decide) ?_
    refine hs_sub [] rfl ?_
    exact t_X4_fits_44 C hf  (0 : Int32) S_10 h
  · skip
    refine hs_iconst (v := 1) C dX4_fits_39 (by decide) ?_
    refine hs_goto (tgt := 44) C dX4_fits_40 (by decide) ?_
    refine hs_sub [] rfl ?_
    exact t_X4_fits_44 C hf  (1 : Int32) S_10 h
theorem m_X4_fits (i0 : Nat) (gi0 : hs_K i0 = 4) (i1 : Nat) (gi1 : hs_K i1 = 3) (i2 : Nat) (gi2 : hs_K i2 = 1) (a3 : Int32) (S : hs_M) {r : Int32} {S' : hs_M} (h : f_X4_fits i0 i1 i2 a3 S = some (r, S')) : hs_met 0 yX4_fits cX4_fits 4 (some .boolean) 3 (fun q => [.ref (q i0), .ref (q i1), .ref (q i2), .int a3]) S (fun q => some (.int r)) S' :=
  hs_mkB (res := (r, S')) (by decide +kernel) (by decide) (fun q => Nat.le_of_ble_eq_true rfl) fun X C hf => (t_X4_fits_0 C hf i0 gi0 i1 gi1 i2 gi2 a3 S h)
set_option maxRecDepth 100000 in
set_option maxHeartbeats 4000000 in
theorem t_X4_hasUseFor_40 {X : hs_T} (C : hs_C X 0 RX4 cX4_hasUseFor 2 0) {res : Int32 × hs_M} (hf : hs_FB X cX4_hasUseFor res) (y0 : Int32) (S : hs_M) (h : f_X4_hasUseFor_40 y0 S = some res) : hs_Z X 2 S [] [.int y0] 40 := by
  unfold f_X4_hasUseFor_40 at h
  exact hs_iretb C hf h dX4_hasUseFor_40
set_option maxRecDepth 100000 in
set_option maxHeartbeats 4000000 in
theorem t_X4_hasUseFor_0 {X : hs_T} (C : hs_C X 0 RX4 cX4_hasUseFor 2 0) {res : Int32 × hs_M} (hf : hs_FB X cX4_hasUseFor res) (p0 : Nat) (gp0 : hs_K p0 = 4) (x1 : Int32) (S : hs_M) (h : f_X4_hasUseFor_0 p0 x1 S = some res) : hs_Z X 2 S [(0, .ref (hs_q X p0)), (1, .int x1)] [] 0 := by
  unfold f_X4_hasUseFor_0 at h
  refine hs_iload_n C dX4_hasUseFor_0 1 rfl rfl ?_
  refine hs_iconst (v := 4) C dX4_hasUseFor_1 (by decide) ?_
  refine hs_icmp_ne (tgt := 7) C dX4_hasUseFor_2 (by decide) h (fun h => ?_) (fun h => ?_)
  · skip
    refine hs_iload_n C dX4_hasUseFor_7 1 rfl rfl ?_
    refine hs_iconst (v := 3) C dX4_hasUseFor_8 (by decide) ?_
    refine hs_icmp_ne (tgt := 27) C dX4_hasUseFor_9 (by decide) h (fun h => ?_) (fun h => ?_)
    · skip
      refine hs_aload_n C dX4_hasUseFor_27 0 rfl rfl ?_
      refine gf_X4_18 C gp0 dX4_hasUseFor_28 ?_
      refine hs_iconst (v := 2) C dX4_hasUseFor_31 (by decide) ?_
      refine hs_icmp_ne (tgt := 39) C dX4_hasUseFor_32 (by decide) h (fun h => ?_) (fun h => ?_)
      · skip
        refine hs_iconst (v := 0) C dX4_hasUseFor_39 (by decide) ?_
        refine hs_sub [] rfl ?_
        exact t_X4_hasUseFor_40 C hf  (0 : Int32) S h
      · skip
        refine hs_iconst (v := 1) C dX4_hasUseFor_35 (by decide) ?_
        refine hs_goto (tgt := 40) C dX4_hasUseFor_36 (by decide) ?_
        refine hs_sub [] rfl ?_
        exact t_X4_hasUseFor_40 C hf  (1 : Int32) S h
    · skip
      refine hs_aload_n C dX4_hasUseFor_12 0 rfl rfl ?_
      refine gf_X4_18 C gp0 dX4_hasUseFor_13 ?_
      refine hs_if_eq (tgt := 23) C dX4_hasUseFor_16 (by decide) h (fun h => ?_) (fun h => ?_)
      · skip
        refine hs_iconst (v := 0) C dX4_hasUseFor_23 (by decide) ?_
        refine hs_goto (tgt := 40) C dX4_hasUseFor_24 (by decide) ?_
        refine hs_sub [] rfl ?_
        exact t_X4_hasUseFor_40 C hf  (0 : Int32) S h
      · skip
        refine hs_iconst (v := 1) C dX4_hasUseFor_19 (by decide) ?_
        refine hs_goto (tgt := 40) C dX4_hasUseFor_20 (by decide) ?_
        refine hs_sub [] rfl ?_
        exact t_X4_hasUseFor_40 C hf  (1 : Int32) S h
  · skip
    refine hs_iconst (v := 1) C dX4_hasUseFor_5 (by decide) ?_
    exact hs_iretb C hf h dX4_hasUseFor_6
theorem m_X4_hasUseFor (i0 : Nat) (gi0 : hs_K i0 = 4) (a1 : Int32) (S : hs_M) {r : Int32} {S' : hs_M} (h : f_X4_hasUseFor i0 a1 S = some (r, S')) : hs_met 0 yX4_hasUseFor cX4_hasUseFor 2 (some .boolean) 0 (fun q => [.ref (q i0), .int a1]) S (fun q => some (.int r)) S' :=
  hs_mkB (res := (r, S')) (by decide +kernel) (by decide) (fun q => Nat.le_of_ble_eq_true rfl) fun X C hf => (t_X4_hasUseFor_0 C hf i0 gi0 a1 S h)
set_option maxRecDepth 100000 in
set_option maxHeartbeats 4000000 in
theorem t_X4_makeMoving_51 {X : hs_T} (C : hs_C X 0 RX4 cX4_makeMoving 4 3) {res : Int32 × hs_M} (hf : hs_FI X cX4_makeMoving res) (p0 : Nat) (gp0 : hs_K p0 = 4) (p1 : Nat) (gp1 : hs_K p1 = 3) (p2 : Nat) (gp2 : hs_K p2 = 1) (x3 : Int32) (S : hs_M) (h : f_X4_makeMoving_51 p0 p1 p2 x3 S = some res) : hs_Z X 4 S [(0, .ref (hs_q X p0)), (1, .ref (hs_q X p1)), (2, .ref (hs_q X p2)), (3, .int x3)] [] 51 := by
  unfold f_X4_makeMoving_51 at h
  refine hs_aload_n C dX4_makeMoving_51 1 rfl rfl ?_
  refine hs_aload_n C dX4_makeMoving_52 2 rfl rfl ?_
  obtain ⟨S_1, hc_2, h⟩ := hs_b1_s h
  refine cs_X4_65 C gp1 (m_X3_readMoving p1 gp1 p2 gp2 S hc_2) (by decide) (Nat.le_of_ble_eq_true rfl) dX4_makeMoving_53 ?_
  refine hs_aload_n C dX4_makeMoving_56 2 rfl rfl ?_
  refine hs_aload_n C dX4_makeMoving_57 1 rfl rfl ?_
  refine gf_X4_22 C gp1 dX4_makeMoving_58 ?_
  refine hs_iload_n C dX4_makeMoving_61 3 rfl rfl ?_
  obtain ⟨r_5, S_3, hc_4, h⟩ := hs_b2_s h
  refine cs_X4_68 C gp2 (m_X1_sumFor p2 gp2 (S_1 p1 3) x3 S_1 hc_4) (by decide) (Nat.le_of_ble_eq_true rfl) dX4_makeMoving_62 ?_
  refine hs_aload_n C dX4_makeMoving_65 1 rfl rfl ?_
  obtain ⟨r_8, S_6, hc_7, h⟩ := hs_b2_s h
  refine cs_X4_72 C gp1 (m_X3_sumTold p1 gp1 S_3 hc_7) (by decide) (Nat.le_of_ble_eq_true rfl) dX4_makeMoving_66 ?_
  refine hs_icmp_eq (tgt := 74) C dX4_makeMoving_69 (by decide) h (fun h => ?_) (fun h => ?_)
  · skip
    refine hs_aload_n C dX4_makeMoving_74 0 rfl rfl ?_
    refine gf_X4_12 C gp0 dX4_makeMoving_75 ?_
    refine hs_aload_n C dX4_makeMoving_78 2 rfl rfl ?_
    refine hs_iload_n C dX4_makeMoving_79 3 rfl rfl ?_
    obtain ⟨S_9, hc_10, h⟩ := hs_b1_s h
    refine cs_X4_75 C (hs_k40 gp0) (m_X0_follow (p0 + 4) (hs_k40 gp0) p2 gp2 x3 S_6 hc_10) (by decide) (Nat.le_of_ble_eq_true rfl) dX4_makeMoving_80 ?_
    refine hs_iconst (v := 1) C dX4_makeMoving_83 (by decide) ?_
    exact hs_ireti C hf h dX4_makeMoving_84
  · skip
    refine hs_iconst (v := 0) C dX4_makeMoving_72 (by decide) ?_
    exact hs_ireti C hf h dX4_makeMoving_73
set_option maxRecDepth 100000 in
set_option maxHeartbeats 4000000 in
theorem t_X4_makeMoving_0 {X : hs_T} (C : hs_C X 0 RX4 cX4_makeMoving 4 3) {res : Int32 × hs_M} (hf : hs_FI X cX4_makeMoving res) (p0 : Nat) (gp0 : hs_K p0 = 4) (p1 : Nat) (gp1 : hs_K p1 = 3) (p2 : Nat) (gp2 : hs_K p2 = 1) (S : hs_M) (h : f_X4_makeMoving_0 p0 p1 p2 S = some res) : hs_Z X 4 S [(0, .ref (hs_q X p0)), (1, .ref (hs_q X p1)), (2, .ref (hs_q X p2))] [] 0 := by
  unfold f_X4_makeMoving_0 at h
  refine hs_aload_n C dX4_makeMoving_0 0 rfl rfl ?_
  refine gf_X4_12 C gp0 dX4_makeMoving_1 ?_
  refine gf_X4_46 C (hs_k40 gp0) dX4_makeMoving_4 ?_
  refine hs_top h (fun x_1 h => ?_)
  refine hs_istore_n (lv' := [(3, .int x_1), (0, .ref (hs_q X p0)), (1, .ref (hs_q X p1)), (2, .ref (hs_q X p2))]) C dX4_makeMoving_7 rfl (by decide) rfl ?_
  refine hs_aload_n C dX4_makeMoving_8 2 rfl rfl ?_
  refine gf_X4_22 C gp1 dX4_makeMoving_9 ?_
  refine hs_iconst (v := 4) C dX4_makeMoving_12 (by decide) ?_
  refine hs_icmp_ne (tgt := 29) C dX4_makeMoving_13 (by decide) h (fun h => ?_) (fun h => ?_)
  · skip
    refine hs_aload_n C dX4_makeMoving_29 3 rfl rfl ?_
    refine hs_aload_n C dX4_makeMoving_30 1 rfl rfl ?_
    refine gf_X4_12 C gp0 dX4_makeMoving_31 ?_
    refine gf_X4_57 C (hs_k40 gp0) dX4_makeMoving_34 ?_
    refine pf_X4_60 C gp2 h dX4_makeMoving_37 (fun S_2 h => ?_)
    refine hs_aload_n C dX4_makeMoving_40 3 rfl rfl ?_
    refine hs_aload_n C dX4_makeMoving_41 1 rfl rfl ?_
    refine gf_X4_12 C gp0 dX4_makeMoving_42 ?_
    refine gf_X4_61 C (hs_k40 gp0) dX4_makeMoving_45 ?_
    refine pf_X4_64 C gp2 h dX4_makeMoving_48 (fun S_3 h => ?_)
    refine hs_sub [1, 2, 3, 0] rfl ?_
    exact t_X4_makeMoving_51 C hf  p0 gp0 p1 gp1 p2 gp2 x_1 S_3 h
  · skip
    refine hs_aload_n C dX4_makeMoving_16 2 rfl rfl ?_
    obtain ⟨r_6, S_4, hc_5, h⟩ := hs_b2_s h
    refine cs_X4_49 C gp1 (m_X3_strideTold p1 gp1 S hc_5) (by decide) (Nat.le_of_ble_eq_true rfl) dX4_makeMoving_17 ?_
    refine hs_istore_n (lv' := [(3, .int r_6), (0, .ref (hs_q X p0)), (1, .ref (hs_q X p1)), (2, .ref (hs_q X p2))]) C dX4_makeMoving_20 rfl (by decide) rfl ?_
    refine hs_aload_n C dX4_makeMoving_21 2 rfl rfl ?_
    refine hs_aload_n C dX4_makeMoving_22 3 rfl rfl ?_
    obtain ⟨S_7, hc_8, h⟩ := hs_b1_s h
    refine cs_X4_53 C gp1 (m_X3_readFixed p1 gp1 p2 gp2 S_4 hc_8) (by decide) (Nat.le_of_ble_eq_true rfl) dX4_makeMoving_23 ?_
    refine hs_goto (tgt := 51) C dX4_makeMoving_26 (by decide) ?_
    refine hs_sub [1, 2, 3, 0] rfl ?_
    exact t_X4_makeMoving_51 C hf  p0 gp0 p1 gp1 p2 gp2 r_6 S_7 h
theorem m_X4_makeMoving (i0 : Nat) (gi0 : hs_K i0 = 4) (i1 : Nat) (gi1 : hs_K i1 = 3) (i2 : Nat) (gi2 : hs_K i2 = 1) (S : hs_M) {r : Int32} {S' : hs_M} (h : f_X4_makeMoving i0 i1 i2 S = some (r, S')) : hs_met 0 yX4_makeMoving cX4_makeMoving 4 (some .int) 3 (fun q => [.ref (q i0), .ref (q i1), .ref (q i2)]) S (fun q => some (.int r)) S' :=
  hs_mkI (res := (r, S')) (by decide +kernel) (by decide) (fun q => Nat.le_of_ble_eq_true rfl) fun X C hf => (t_X4_makeMoving_0 C hf i0 gi0 i1 gi1 i2 gi2 S h)
set_option maxRecDepth 100000 in
set_option maxHeartbeats 4000000 in
theorem t_X4_numberNear_0 {X : hs_T} (C : hs_C X 0 RX4 cX4_numberNear 4 2) {res : Int32 × hs_M} (hf : hs_FI X cX4_numberNear res) (x0 : Int32) (p1 : Nat) (gp1 : hs_K p1 = 3) (S : hs_M) (h : f_X4_numberNear_0 x0 p1 S = some res) : hs_Z X 4 S [(0, .int x0), (1, .ref (hs_q X p1))] [] 0 := by
  unfold f_X4_numberNear_0 at h
  refine hs_iload_n C dX4_numberNear_0 0 rfl rfl ?_
  refine hs_gets (j := 4) (nm := "STEPS_BACK") C (by decide) rfl (by decide +kernel) dX4_numberNear_1 ?_
  refine hs_aload_n C dX4_numberNear_4 1 rfl rfl ?_
  refine gf_X4_22 C gp1 dX4_numberNear_5 ?_
  refine hs_top h (fun x_1 h => ?_)
  refine hs_sld C (by decide) h dX4_numberNear_8 (fun h => ?_)
  refine hs_isub C dX4_numberNear_9 ?_
  refine hs_top h (fun x_2 h => ?_)
  refine hs_istore_n (lv' := [(2, .int x_2), (0, .int x0), (1, .ref (hs_q X p1))]) C dX4_numberNear_10 rfl (by decide) rfl ?_
  refine hs_aload_n C dX4_numberNear_11 2 rfl rfl ?_
  obtain ⟨r_5, S_3, hc_4, h⟩ := hs_b2_s h
  refine cs_X4_101 C gp1 (m_X3_lowTold p1 gp1 S hc_4) (by decide) (Nat.le_of_ble_eq_true rfl) dX4_numberNear_12 ?_
  refine hs_iload_n C dX4_numberNear_15 0 rfl rfl ?_
  refine hs_isub C dX4_numberNear_16 ?_
  refine hs_gets (j := 3) (nm := "LOW_BITS") C (by decide) rfl (by decide +kernel) dX4_numberNear_17 ?_
  refine hs_aload_n C dX4_numberNear_20 2 rfl rfl ?_
  refine gf_X4_22 C gp1 dX4_numberNear_21 ?_
  refine hs_top h (fun x_6 h => ?_)
  refine hs_sld C (by decide) h dX4_numberNear_24 (fun h => ?_)
  refine hs_iand C dX4_numberNear_25 ?_
  refine hs_top h (fun x_7 h => ?_)
  refine hs_istore_n (lv' := [(3, .int x_7), (2, .int x_2), (0, .int x0), (1, .ref (hs_q X p1))]) C dX4_numberNear_26 rfl (by decide) rfl ?_
  refine hs_iload_n C dX4_numberNear_27 1 rfl rfl ?_
  refine hs_iload_n C dX4_numberNear_28 0 rfl rfl ?_
  refine hs_iadd C dX4_numberNear_29 ?_
  refine hs_ldc C ww_133 dX4_numberNear_30 ?_
  refine hs_iand C dX4_numberNear_32 ?_
  exact hs_ireti C hf h dX4_numberNear_33
theorem m_X4_numberNear (a0 : Int32) (i1 : Nat) (gi1 : hs_K i1 = 3) (S : hs_M) {r : Int32} {S' : hs_M} (h : f_X4_numberNear a0 i1 S = some (r, S')) : hs_met 0 yX4_numberNear cX4_numberNear 4 (some .int) 2 (fun q => [.int a0, .ref (q i1)]) S (fun q => some (.int r)) S' :=
  hs_mkI (res := (r, S')) (by decide +kernel) (by decide) (fun q => Nat.le_of_ble_eq_true rfl) fun X C hf => (t_X4_numberNear_0 C hf a0 i1 gi1 S h)
set_option maxRecDepth 100000 in
set_option maxHeartbeats 4000000 in
theorem t_X4_makeSmall_83 {X : hs_T} (C : hs_C X 0 RX4 cX4_makeSmall 6 4) {res : Int32 × hs_M} (hf : hs_FI X cX4_makeSmall res) (y0 : Int32) (S : hs_M) (h : f_X4_makeSmall_83 y0 S = some res) : hs_Z X 6 S [] [.int y0] 83 := by
  unfold f_X4_makeSmall_83 at h
  exact hs_ireti C hf h dX4_makeSmall_83
set_option maxRecDepth 100000 in
set_option maxHeartbeats 4000000 in
theorem t_X4_makeSmall_71 {X : hs_T} (C : hs_C X 0 RX4 cX4_makeSmall 6 4) {res : Int32 × hs_M} (hf : hs_FI X cX4_makeSmall res) (y0 : Int32) (S : hs_M) (h : f_X4_makeSmall_71 y0 S = some res) : hs_Z X 6 S [] [.int y0] 71 := by
  unfold f_X4_makeSmall_71 at h
  refine hs_istore (lv' := [(5, .int y0)]) C dX4_makeSmall_71 (by decide) rfl ?_
  refine hs_iload C dX4_makeSmall_73 0 rfl ?_
  refine hs_if_eq (tgt := 82) C dX4_makeSmall_75 (by decide) h (fun h => ?_) (fun h => ?_)
  · skip
    refine hs_iconst (v := 0) C dX4_makeSmall_82 (by decide) ?_
    refine hs_sub [] rfl ?_
    exact t_X4_makeSmall_83 C hf  (0 : Int32) S h
  · skip
    refine hs_iconst (v := 2) C dX4_makeSmall_78 (by decide) ?_
    refine hs_goto (tgt := 83) C dX4_makeSmall_79 (by decide) ?_
    refine hs_sub [] rfl ?_
    exact t_X4_makeSmall_83 C hf  (2 : Int32) S h
set_option maxRecDepth 100000 in
set_option maxHeartbeats 4000000 in
theorem t_X4_makeSmall_66 {X : hs_T} (C : hs_C X 0 RX4 cX4_makeSmall 6 4) {res : Int32 × hs_M} (hf : hs_FI X cX4_makeSmall res) (S : hs_M) (h : f_X4_makeSmall_66  S = some res) : hs_Z X 6 S [] [] 66 := by
  unfold f_X4_makeSmall_66 at h
  refine hs_iconst (v := 1) C dX4_makeSmall_66 (by decide) ?_
  refine hs_goto (tgt := 71) C dX4_makeSmall_67 (by decide) ?_
  exact t_X4_makeSmall_71 C hf  (1 : Int32) S h
set_option maxRecDepth 100000 in
set_option maxHeartbeats 4000000 in
theorem t_X4_makeSmall_0 {X : hs_T} (C : hs_C X 0 RX4 cX4_makeSmall 6 4) {res : Int32 × hs_M} (hf : hs_FI X cX4_makeSmall res) (p0 : Nat) (gp0 : hs_K p0 = 4) (p1 : Nat) (gp1 : hs_K p1 = 3) (p2 : Nat) (gp2 : hs_K p2 = 1) (S : hs_M) (h : f_X4_makeSmall_0 p0 p1 p2 S = some res) : hs_Z X 6 S [(0, .ref (hs_q X p0)), (1, .ref (hs_q X p1)), (2, .ref (hs_q X p2))] [] 0 := by
  unfold f_X4_makeSmall_0 at h
  refine hs_aload_n C dX4_makeSmall_0 0 rfl rfl ?_
  refine gf_X4_79 C gp0 dX4_makeSmall_1 ?_
  refine hs_aload_n C dX4_makeSmall_4 1 rfl rfl ?_
  obtain ⟨r_3, S_1, hc_2, h⟩ := hs_b2_s h
  refine cs_X4_82 C (m_X4_numberNear (S p0 2) p1 gp1 S hc_2) (by decide) (Nat.le_of_ble_eq_true rfl) dX4_makeSmall_5 ?_
  refine hs_istore_n (lv' := [(3, .int r_3), (0, .ref (hs_q X p0)), (1, .ref (hs_q X p1)), (2, .ref (hs_q X p2))]) C dX4_makeSmall_8 rfl (by decide) rfl ?_
  refine hs_aload_n C dX4_makeSmall_9 1 rfl rfl ?_
  refine hs_aload_n C dX4_makeSmall_10 2 rfl rfl ?_
  refine hs_aload_n C dX4_makeSmall_11 3 rfl rfl ?_
  refine hs_iload_n C dX4_makeSmall_12 0 rfl rfl ?_
  obtain ⟨r_6, S_4, hc_5, h⟩ := hs_b2_s h
  refine cs_X4_86 C gp0 (m_X4_fits p0 gp0 p1 gp1 p2 gp2 r_3 S_1 hc_5) (by decide) (Nat.le_of_ble_eq_true rfl) dX4_makeSmall_13 ?_
  refine hs_if_eq (tgt := 21) C dX4_makeSmall_16 (by decide) h (fun h => ?_) (fun h => ?_)
  · skip
    refine hs_iload_n C dX4_makeSmall_21 0 rfl rfl ?_
    refine hs_gets (j := 3) (nm := "LOW_BITS") C (by decide) rfl (by decide +kernel) dX4_makeSmall_22 ?_
    refine hs_aload_n C dX4_makeSmall_25 2 rfl rfl ?_
    refine gf_X4_22 C gp1 dX4_makeSmall_26 ?_
    refine hs_top h (fun x_7 h => ?_)
    refine hs_sld C (by decide) h dX4_makeSmall_29 (fun h => ?_)
    refine hs_iadd C dX4_makeSmall_30 ?_
    refine hs_iconst (v := 1) C dX4_makeSmall_31 (by decide) ?_
    refine hs_iadd C dX4_makeSmall_32 ?_
    refine hs_ldc C ww_133 dX4_makeSmall_33 ?_
    refine hs_iand C dX4_makeSmall_35 ?_
    refine hs_top h (fun x_8 h => ?_)
    refine hs_istore (lv' := [(4, .int x_8), (3, .int r_3), (0, .ref (hs_q X p0)), (1, .ref (hs_q X p1)), (2, .ref (hs_q X p2))]) C dX4_makeSmall_36 (by decide) rfl ?_
    refine hs_aload_n C dX4_makeSmall_38 2 rfl rfl ?_
    refine hs_aload_n C dX4_makeSmall_39 3 rfl rfl ?_
    refine hs_aload_n C dX4_makeSmall_40 4 rfl rfl ?_
    refine hs_iload C dX4_makeSmall_41 0 rfl ?_
    obtain ⟨r_11, S_9, hc_10, h⟩ := hs_b2_s h
    refine cs_X4_86 C gp0 (m_X4_fits p0 gp0 p1 gp1 p2 gp2 x_8 S_4 hc_10) (by decide) (Nat.le_of_ble_eq_true rfl) dX4_makeSmall_43 ?_
    refine hs_if_ne (tgt := 66) C dX4_makeSmall_46 (by decide) h (fun h => ?_) (fun h => ?_)
    · skip
      refine hs_sub [] rfl ?_
      exact t_X4_makeSmall_66 C hf   S_9 h
    · skip
      refine hs_aload_n C dX4_makeSmall_49 2 rfl rfl ?_
      refine hs_aload_n C dX4_makeSmall_50 3 rfl rfl ?_
      refine hs_aload_n C dX4_makeSmall_51 4 rfl rfl ?_
      refine hs_aload_n C dX4_makeSmall_52 2 rfl rfl ?_
      refine gf_X4_95 C gp0 dX4_makeSmall_53 ?_
      refine hs_aload_n C dX4_makeSmall_56 3 rfl rfl ?_
      obtain ⟨r_14, S_12, hc_13, h⟩ := hs_b2_s h
      refine cs_X4_82 C (m_X4_numberNear (S_9 p0 3) p1 gp1 S_9 hc_13) (by decide) (Nat.le_of_ble_eq_true rfl) dX4_makeSmall_57 ?_
      obtain ⟨r_17, S_15, hc_16, h⟩ := hs_b2_s h
      refine cs_X4_86 C gp0 (m_X4_fits p0 gp0 p1 gp1 p2 gp2 r_14 S_12 hc_16) (by decide) (Nat.le_of_ble_eq_true rfl) dX4_makeSmall_60 ?_
      refine hs_if_eq (tgt := 70) C dX4_makeSmall_63 (by decide) h (fun h => ?_) (fun h => ?_)
      · skip
        refine hs_iconst (v := 0) C dX4_makeSmall_70 (by decide) ?_
        refine hs_sub [] rfl ?_
        exact t_X4_makeSmall_71 C hf  (0 : Int32) S_15 h
      · skip
        refine hs_sub [] rfl ?_
        exact t_X4_makeSmall_66 C hf   S_15 h
  · skip
    refine hs_iconst (v := 1) C dX4_makeSmall_19 (by decide) ?_
    exact hs_ireti C hf h dX4_makeSmall_20
theorem m_X4_makeSmall (i0 : Nat) (gi0 : hs_K i0 = 4) (i1 : Nat) (gi1 : hs_K i1 = 3) (i2 : Nat) (gi2 : hs_K i2 = 1) (S : hs_M) {r : Int32} {S' : hs_M} (h : f_X4_makeSmall i0 i1 i2 S = some (r, S')) : hs_met 0 yX4_makeSmall cX4_makeSmall 6 (some .int) 4 (fun q => [.ref (q i0), .ref (q i1), .ref (q i2)]) S (fun q => some (.int r)) S' :=
  hs_mkI (res := (r, S')) (by decide +kernel) (by decide) (fun q => Nat.le_of_ble_eq_true rfl) fun X C hf => (t_X4_makeSmall_0 C hf i0 gi0 i1 gi1 i2 gi2 S h)
set_option maxRecDepth 100000 in
set_option maxHeartbeats 4000000 in
theorem t_X4_noteFailure_37 {X : hs_T} (C : hs_C X 0 RX4 cX4_noteFailure 1 1) {res : hs_M} (hf : hs_FV X cX4_noteFailure res) (S : hs_M) (h : f_X4_noteFailure_37  S = some res) : hs_Z X 1 S [] [] 37 := by
  unfold f_X4_noteFailure_37 at h
  exact hs_vret C hf h dX4_noteFailure_37
set_option maxRecDepth 100000 in
set_option maxHeartbeats 4000000 in
theorem t_X4_noteFailure_0 {X : hs_T} (C : hs_C X 0 RX4 cX4_noteFailure 1 1) {res : hs_M} (hf : hs_FV X cX4_noteFailure res) (p0 : Nat) (gp0 : hs_K p0 = 4) (S : hs_M) (h : f_X4_noteFailure_0 p0 S = some res) : hs_Z X 1 S [(0, .ref (hs_q X p0))] [] 0 := by
  unfold f_X4_noteFailure_0 at h
  refine hs_aload_n C dX4_noteFailure_0 0 rfl rfl ?_
  refine hs_dup C dX4_noteFailure_1 rfl ?_
  refine gf_X4_115 C gp0 dX4_noteFailure_2 ?_
  refine hs_iconst (v := 1) C dX4_noteFailure_5 (by decide) ?_
  refine hs_iadd C dX4_noteFailure_6 ?_
  refine pf_X4_115 C gp0 h dX4_noteFailure_7 (fun S_1 h => ?_)
  refine hs_aload_n C dX4_noteFailure_10 0 rfl rfl ?_
  refine gf_X4_115 C gp0 dX4_noteFailure_11 ?_
  refine hs_iconst (v := 3) C dX4_noteFailure_14 (by decide) ?_
  refine hs_icmp_ne (tgt := 37) C dX4_noteFailure_15 (by decide) h (fun h => ?_) (fun h => ?_)
  · skip
    refine hs_sub [] rfl ?_
    exact t_X4_noteFailure_37 C hf   S_1 h
  · skip
    refine hs_aload_n C dX4_noteFailure_18 0 rfl rfl ?_
    refine hs_iconst (v := 0) C dX4_noteFailure_19 (by decide) ?_
    refine pf_X4_115 C gp0 h dX4_noteFailure_20 (fun S_2 h => ?_)
    refine hs_aload_n C dX4_noteFailure_23 0 rfl rfl ?_
    refine hs_aload_n C dX4_noteFailure_24 0 rfl rfl ?_
    refine gf_X4_18 C gp0 dX4_noteFailure_25 ?_
    refine hs_iconst (v := 1) C dX4_noteFailure_28 (by decide) ?_
    refine hs_isub C dX4_noteFailure_29 ?_
    refine hs_iconst (v := 0) C dX4_noteFailure_30 (by decide) ?_
    refine hs_cmax C ww_145 ww_146 ww_147 ww_148 (by decide) (Nat.le_of_ble_eq_true rfl) dX4_noteFailure_31 ?_
    refine pf_X4_18 C gp0 h dX4_noteFailure_34 (fun S_3 h => ?_)
    refine hs_sub [] rfl ?_
    exact t_X4_noteFailure_37 C hf   S_3 h
theorem m_X4_noteFailure (i0 : Nat) (gi0 : hs_K i0 = 4) (S : hs_M) {S' : hs_M} (h : f_X4_noteFailure i0 S = some S') : hs_met 0 yX4_noteFailure cX4_noteFailure 1 none 1 (fun q => [.ref (q i0)]) S (fun q => none) S' :=
  hs_mkV (res := S') (by decide +kernel) (by decide) (fun q => Nat.le_of_ble_eq_true rfl) fun X C hf => (t_X4_noteFailure_0 C hf i0 gi0 S h)
set_option maxRecDepth 100000 in
set_option maxHeartbeats 4000000 in
theorem t_X4_noteMade_16 {X : hs_T} (C : hs_C X 0 RX4 cX4_noteMade 2 0) {res : hs_M} (hf : hs_FV X cX4_noteMade res) (p0 : Nat) (gp0 : hs_K p0 = 4) (x1 : Int32) (q0 : Nat) (gq0 : hs_K q0 = 4) (y1 : Int32) (S : hs_M) (h : f_X4_noteMade_16 p0 x1 q0 y1 S = some res) : hs_Z X 2 S [(0, .ref (hs_q X p0)), (1, .int x1)] [.int y1, .ref (hs_q X q0)] 16 := by
  unfold f_X4_noteMade_16 at h
  refine pf_X4_95 C gq0 h dX4_noteMade_16 (fun S_1 h => ?_)
  refine hs_aload_n C dX4_noteMade_19 0 rfl rfl ?_
  refine hs_iload_n C dX4_noteMade_20 1 rfl rfl ?_
  refine pf_X4_79 C gp0 h dX4_noteMade_21 (fun S_2 h => ?_)
  refine hs_aload_n C dX4_noteMade_24 0 rfl rfl ?_
  refine hs_iconst (v := 2) C dX4_noteMade_25 (by decide) ?_
  refine pf_X4_18 C gp0 h dX4_noteMade_26 (fun S_3 h => ?_)
  refine hs_aload_n C dX4_noteMade_29 0 rfl rfl ?_
  refine hs_iconst (v := 0) C dX4_noteMade_30 (by decide) ?_
  refine pf_X4_115 C gp0 h dX4_noteMade_31 (fun S_4 h => ?_)
  exact hs_vret C hf h dX4_noteMade_34
set_option maxRecDepth 100000 in
set_option maxHeartbeats 4000000 in
theorem t_X4_noteMade_0 {X : hs_T} (C : hs_C X 0 RX4 cX4_noteMade 2 0) {res : hs_M} (hf : hs_FV X cX4_noteMade res) (p0 : Nat) (gp0 : hs_K p0 = 4) (x1 : Int32) (S : hs_M) (h : f_X4_noteMade_0 p0 x1 S = some res) : hs_Z X 2 S [(0, .ref (hs_q X p0)), (1, .int x1)] [] 0 := by
  unfold f_X4_noteMade_0 at h
  refine hs_aload_n C dX4_noteMade_0 0 rfl rfl ?_
  refine hs_aload_n C dX4_noteMade_1 0 rfl rfl ?_
  refine gf_X4_18 C gp0 dX4_noteMade_2 ?_
  refine hs_if_ne (tgt := 12) C dX4_noteMade_5 (by decide) h (fun h => ?_) (fun h => ?_)
  · skip
    refine hs_aload_n C dX4_noteMade_12 0 rfl rfl ?_
    refine gf_X4_79 C gp0 dX4_noteMade_13 ?_
    exact t_X4_noteMade_16 C hf  p0 gp0 x1 p0 gp0 (S p0 2) S h
  · skip
    refine hs_iload_n C dX4_noteMade_8 1 rfl rfl ?_
    refine hs_goto (tgt := 16) C dX4_noteMade_9 (by decide) ?_
    exact t_X4_noteMade_16 C hf  p0 gp0 x1 p0 gp0 x1 S h
theorem m_X4_noteMade (i0 : Nat) (gi0 : hs_K i0 = 4) (a1 : Int32) (S : hs_M) {S' : hs_M} (h : f_X4_noteMade i0 a1 S = some S') : hs_met 0 yX4_noteMade cX4_noteMade 2 none 0 (fun q => [.ref (q i0), .int a1]) S (fun q => none) S' :=
  hs_mkV (res := S') (by decide +kernel) (by decide) (fun q => Nat.le_of_ble_eq_true rfl) fun X C hf => (t_X4_noteMade_0 C hf i0 gi0 a1 S h)
set_option maxRecDepth 100000 in
set_option maxHeartbeats 4000000 in
theorem t_X4_take_43 {X : hs_T} (C : hs_C X 0 RX4 cX4_take 4 5) {res : Int32 × hs_M} (hf : hs_FI X cX4_take res) (x3 : Int32) (S : hs_M) (h : f_X4_take_43 x3 S = some res) : hs_Z X 4 S [(3, .int x3)] [] 43 := by
  unfold f_X4_take_43 at h
  refine hs_iload_n C dX4_take_43 0 rfl rfl ?_
  exact hs_ireti C hf h dX4_take_44
set_option maxRecDepth 100000 in
set_option maxHeartbeats 4000000 in
theorem t_X4_take_23 {X : hs_T} (C : hs_C X 0 RX4 cX4_take 4 5) {res : Int32 × hs_M} (hf : hs_FI X cX4_take res) (p0 : Nat) (gp0 : hs_K p0 = 4) (p2 : Nat) (gp2 : hs_K p2 = 1) (y0 : Int32) (S : hs_M) (h : f_X4_take_23 p0 p2 y0 S = some res) : hs_Z X 4 S [(0, .ref (hs_q X p0)), (2, .ref (hs_q X p2))] [.int y0] 23 := by
  unfold f_X4_take_23 at h
  refine hs_istore_n (lv' := [(3, .int y0), (0, .ref (hs_q X p0)), (2, .ref (hs_q X p2))]) C dX4_take_23 rfl (by decide) rfl ?_
  refine hs_iload_n C dX4_take_24 0 rfl rfl ?_
  refine hs_if_ne (tgt := 35) C dX4_take_25 (by decide) h (fun h => ?_) (fun h => ?_)
  · skip
    refine hs_aload_n C dX4_take_35 1 rfl rfl ?_
    refine hs_aload_n C dX4_take_36 2 rfl rfl ?_
    refine gf_X4_37 C gp2 dX4_take_37 ?_
    obtain ⟨S_1, hc_2, h⟩ := hs_b1_s h
    refine cs_X4_42 C gp0 (m_X4_noteMade p0 gp0 (S p2 3) S hc_2) (by decide) (Nat.le_of_ble_eq_true rfl) dX4_take_40 ?_
    refine hs_sub [0] rfl ?_
    exact t_X4_take_43 C hf  y0 S_1 h
  · skip
    refine hs_aload_n C dX4_take_28 1 rfl rfl ?_
    obtain ⟨S_3, hc_4, h⟩ := hs_b1_s h
    refine cs_X4_34 C gp0 (m_X4_noteFailure p0 gp0 S hc_4) (by decide) (Nat.le_of_ble_eq_true rfl) dX4_take_29 ?_
    refine hs_goto (tgt := 43) C dX4_take_32 (by decide) ?_
    refine hs_sub [0] rfl ?_
    exact t_X4_take_43 C hf  y0 S_3 h
set_option maxRecDepth 100000 in
set_option maxHeartbeats 4000000 in
theorem t_X4_take_0 {X : hs_T} (C : hs_C X 0 RX4 cX4_take 4 5) {res : Int32 × hs_M} (hf : hs_FI X cX4_take res) (p0 : Nat) (gp0 : hs_K p0 = 4) (p1 : Nat) (gp1 : hs_K p1 = 3) (p2 : Nat) (gp2 : hs_K p2 = 1) (S : hs_M) (h : f_X4_take_0 p0 p1 p2 S = some res) : hs_Z X 4 S [(0, .ref (hs_q X p0)), (1, .ref (hs_q X p1)), (2, .ref (hs_q X p2))] [] 0 := by
  unfold f_X4_take_0 at h
  refine hs_aload_n C dX4_take_0 1 rfl rfl ?_
  refine gf_X4_22 C gp1 dX4_take_1 ?_
  refine hs_iconst (v := 3) C dX4_take_4 (by decide) ?_
  refine hs_icmp_ge (tgt := 17) C dX4_take_5 (by decide) h (fun h => ?_) (fun h => ?_)
  · skip
    refine hs_aload_n C dX4_take_17 0 rfl rfl ?_
    refine hs_aload_n C dX4_take_18 1 rfl rfl ?_
    refine hs_aload_n C dX4_take_19 2 rfl rfl ?_
    obtain ⟨r_3, S_1, hc_2, h⟩ := hs_b2_s h
    refine cs_X4_31 C gp0 (m_X4_makeMoving p0 gp0 p1 gp1 p2 gp2 S hc_2) (by decide) (Nat.le_of_ble_eq_true rfl) dX4_take_20 ?_
    refine hs_sub [0, 2] rfl ?_
    exact t_X4_take_23 C hf  p0 gp0 p2 gp2 r_3 S_1 h
  · skip
    refine hs_aload_n C dX4_take_8 0 rfl rfl ?_
    refine hs_aload_n C dX4_take_9 1 rfl rfl ?_
    refine hs_aload_n C dX4_take_10 2 rfl rfl ?_
    obtain ⟨r_6, S_4, hc_5, h⟩ := hs_b2_s h
    refine cs_X4_27 C gp0 (m_X4_makeSmall p0 gp0 p1 gp1 p2 gp2 S hc_5) (by decide) (Nat.le_of_ble_eq_true rfl) dX4_take_11 ?_
    refine hs_goto (tgt := 23) C dX4_take_14 (by decide) ?_
    refine hs_sub [0, 2] rfl ?_
    exact t_X4_take_23 C hf  p0 gp0 p2 gp2 r_6 S_4 h
theorem m_X4_take (i0 : Nat) (gi0 : hs_K i0 = 4) (i1 : Nat) (gi1 : hs_K i1 = 3) (i2 : Nat) (gi2 : hs_K i2 = 1) (S : hs_M) {r : Int32} {S' : hs_M} (h : f_X4_take i0 i1 i2 S = some (r, S')) : hs_met 0 yX4_take cX4_take 4 (some .int) 5 (fun q => [.ref (q i0), .ref (q i1), .ref (q i2)]) S (fun q => some (.int r)) S' :=
  hs_mkI (res := (r, S')) (by decide +kernel) (by decide) (fun q => Nat.le_of_ble_eq_true rfl) fun X C hf => (t_X4_take_0 C hf i0 gi0 i1 gi1 i2 gi2 S h)
set_option maxRecDepth 100000 in
set_option maxHeartbeats 4000000 in
theorem t_X5_enter_0 {X : hs_T} (C : hs_C X 0 RX5 cX5_enter 2 0) {res : hs_M} (hf : hs_FV X cX5_enter res) (p0 : Nat) (gp0 : hs_K p0 = 5) (x1 : Int32) (S : hs_M) (h : f_X5_enter_0 p0 x1 S = some res) : hs_Z X 2 S [(0, .ref (hs_q X p0)), (1, .int x1)] [] 0 := by
  unfold f_X5_enter_0 at h
  refine hs_aload_n C dX5_enter_0 0 rfl rfl ?_
  refine hs_iload_n C dX5_enter_1 1 rfl rfl ?_
  refine pf_X5_47 C gp0 h dX5_enter_2 (fun S_1 h => ?_)
  refine hs_aload_n C dX5_enter_5 0 rfl rfl ?_
  refine hs_iconst (v := 0) C dX5_enter_6 (by decide) ?_
  refine pf_X5_61 C gp0 h dX5_enter_7 (fun S_2 h => ?_)
  exact hs_vret C hf h dX5_enter_10
theorem m_X5_enter (i0 : Nat) (gi0 : hs_K i0 = 5) (a1 : Int32) (S : hs_M) {S' : hs_M} (h : f_X5_enter i0 a1 S = some S') : hs_met 0 yX5_enter cX5_enter 2 none 0 (fun q => [.ref (q i0), .int a1]) S (fun q => none) S' :=
  hs_mkV (res := S') (by decide +kernel) (by decide) (fun q => Nat.le_of_ble_eq_true rfl) fun X C hf => (t_X5_enter_0 C hf i0 gi0 a1 S h)
set_option maxRecDepth 100000 in
set_option maxHeartbeats 4000000 in
theorem t_X5_isEnough_12 {X : hs_T} (C : hs_C X 0 RX5 cX5_isEnough 6 1) {res : Int32 × hs_M} (hf : hs_FB X cX5_isEnough res) (K12 : Nat → Int32 → Int32 → Int32 → Int32 → hs_M → Option (Int32 × hs_M)) (hK12 : ∀ (p0 : Nat) (_ : hs_K p0 = 5) (x1 : Int32) (x2 : Int32) (x3 : Int32) (x4 : Int32) (S : hs_M), K12 p0 x1 x2 x3 x4 S = some res → hs_Z X 6 S [(0, .ref (hs_q X p0)), (1, .int x1), (2, .int x2), (3, .int x3), (4, .int x4)] [] 12) (p0 : Nat) (gp0 : hs_K p0 = 5) (x1 : Int32) (x2 : Int32) (x3 : Int32) (x4 : Int32) (S : hs_M) (h : fb_X5_isEnough_12 K12 p0 x1 x2 x3 x4 S = some res) : hs_Z X 6 S [(0, .ref (hs_q X p0)), (1, .int x1), (2, .int x2), (3, .int x3), (4, .int x4)] [] 12 := by
  unfold fb_X5_isEnough_12 at h
  refine hs_iload C dX5_isEnough_12 4 rfl ?_
  refine hs_iload_n C dX5_isEnough_14 3 rfl rfl ?_
  refine hs_icmp_ge (tgt := 56) C dX5_isEnough_15 (by decide) h (fun h => ?_) (fun h => ?_)
  · skip
    refine hs_iconst (v := 1) C dX5_isEnough_56 (by decide) ?_
    exact hs_iretb C hf h dX5_isEnough_57
  · skip
    refine hs_iload_n C dX5_isEnough_18 2 rfl rfl ?_
    refine hs_aload_n C dX5_isEnough_19 0 rfl rfl ?_
    refine gf_X5_18 C gp0 dX5_isEnough_20 ?_
    refine hs_iload C dX5_isEnough_23 4 rfl ?_
    refine hs_ald (kd := 8) C (Or.inl rfl) rfl (hs_k56 gp0) h dX5_isEnough_25 (fun h => ?_)
    refine hs_isub C dX5_isEnough_26 ?_
    refine hs_gets (j := 4) (nm := "STEPS_BACK") C (by decide) rfl (by decide +kernel) dX5_isEnough_27 ?_
    refine hs_iload_n C dX5_isEnough_30 1 rfl rfl ?_
    refine hs_sld C (by decide) h dX5_isEnough_31 (fun h => ?_)
    refine hs_iadd C dX5_isEnough_32 ?_
    refine hs_ldc C ww_169 dX5_isEnough_33 ?_
    refine hs_iand C dX5_isEnough_35 ?_
    refine hs_top h (fun x_1 h => ?_)
    refine hs_istore (lv' := [(5, .int x_1), (0, .ref (hs_q X p0)), (1, .int x1), (2, .int x2), (3, .int x3), (4, .int x4)]) C dX5_isEnough_36 (by decide) rfl ?_
    refine hs_iload C dX5_isEnough_38 0 rfl ?_
    refine hs_gets (j := 3) (nm := "LOW_BITS") C (by decide) rfl (by decide +kernel) dX5_isEnough_40 ?_
    refine hs_iload_n C dX5_isEnough_43 2 rfl rfl ?_
    refine hs_sld C (by decide) h dX5_isEnough_44 (fun h => ?_)
    refine hs_icmp_le (tgt := 50) C dX5_isEnough_45 (by decide) h (fun h => ?_) (fun h => ?_)
    · skip
      refine hs_iinc' (1 : Int32) C dX5_isEnough_50 5 rfl (by decide) (by decide) h (fun x_2 h => ?_)
      show hs_Z X _ _ [(4, .int x_2), (5, .int x_1), (0, .ref (hs_q X p0)), (1, .int x1), (2, .int x2), (3, .int x3)] _ _
      refine hs_goto (tgt := 12) C dX5_isEnough_53 (by decide) ?_
      refine hs_sub [2, 3, 4, 5, 0] rfl ?_
      exact hK12 p0 gp0 x1 x2 x3 x_2 S h
    · skip
      refine hs_iconst (v := 0) C dX5_isEnough_48 (by decide) ?_
      exact hs_iretb C hf h dX5_isEnough_49
theorem t_X5_isEnough_12l {X : hs_T} (C : hs_C X 0 RX5 cX5_isEnough 6 1) {res : Int32 × hs_M} (hf : hs_FB X cX5_isEnough res)  : ∀ (n : Nat) (p0 : Nat) (gp0 : hs_K p0 = 5) (x1 : Int32) (x2 : Int32) (x3 : Int32) (x4 : Int32) (S : hs_M), f_X5_isEnough_12  n p0 x1 x2 x3 x4 S = some res → hs_Z X 6 S [(0, .ref (hs_q X p0)), (1, .int x1), (2, .int x2), (3, .int x3), (4, .int x4)] [] 12 := by
  intro n
  induction n with
  | zero =>
    intro p0 gp0 x1 x2 x3 x4 S h
    cases h
  | succ n ih =>
    intro p0 gp0 x1 x2 x3 x4 S h
    exact t_X5_isEnough_12 C hf  (f_X5_isEnough_12  n) ih p0 gp0 x1 x2 x3 x4 S h
set_option maxRecDepth 100000 in
set_option maxHeartbeats 4000000 in
theorem t_X5_isEnough_0 {X : hs_T} (C : hs_C X 0 RX5 cX5_isEnough 6 1) {res : Int32 × hs_M} (hf : hs_FB X cX5_isEnough res) (p0 : Nat) (gp0 : hs_K p0 = 5) (x1 : Int32) (x2 : Int32) (S : hs_M) (h : f_X5_isEnough_0 p0 x1 x2 S = some res) : hs_Z X 6 S [(0, .ref (hs_q X p0)), (1, .int x1), (2, .int x2)] [] 0 := by
  unfold f_X5_isEnough_0 at h
  refine hs_aload_n C dX5_isEnough_0 0 rfl rfl ?_
  refine gf_X5_58 C gp0 dX5_isEnough_1 ?_
  refine hs_iconst (v := 4) C dX5_isEnough_4 (by decide) ?_
  refine hs_cmin C ww_171 ww_172 ww_147 ww_173 (by decide) (Nat.le_of_ble_eq_true rfl) dX5_isEnough_5 ?_
  refine hs_top h (fun x_1 h => ?_)
  refine hs_istore_n (lv' := [(3, .int x_1), (0, .ref (hs_q X p0)), (1, .int x1), (2, .int x2)]) C dX5_isEnough_8 rfl (by decide) rfl ?_
  refine hs_iconst (v := 0) C dX5_isEnough_9 (by decide) ?_
  refine hs_istore (lv' := [(4, .int (0 : Int32)), (3, .int x_1), (0, .ref (hs_q X p0)), (1, .int x1), (2, .int x2)]) C dX5_isEnough_10 (by decide) rfl ?_
  refine hs_sub [2, 3, 4, 1, 0] rfl ?_
  exact t_X5_isEnough_12l C hf  hs_fuel p0 gp0 x1 x2 x_1 (0 : Int32) S h
theorem m_X5_isEnough (i0 : Nat) (gi0 : hs_K i0 = 5) (a1 : Int32) (a2 : Int32) (S : hs_M) {r : Int32} {S' : hs_M} (h : f_X5_isEnough i0 a1 a2 S = some (r, S')) : hs_met 0 yX5_isEnough cX5_isEnough 6 (some .boolean) 1 (fun q => [.ref (q i0), .int a1, .int a2]) S (fun q => some (.int r)) S' :=
  hs_mkB (res := (r, S')) (by decide +kernel) (by decide) (fun q => Nat.le_of_ble_eq_true rfl) fun X C hf => (t_X5_isEnough_0 C hf i0 gi0 a1 a2 S h)
set_option maxRecDepth 100000 in
set_option maxHeartbeats 4000000 in
theorem t_X5_smallestKind_52 {X : hs_T} (C : hs_C X 0 RX5 cX5_smallestKind 2 2) {res : Int32 × hs_M} (hf : hs_FI X cX5_smallestKind res) (y0 : Int32) (S : hs_M) (h : f_X5_smallestKind_52 y0 S = some res) : hs_Z X 2 S [] [.int y0] 52 := by
  unfold f_X5_smallestKind_52 at h
  exact hs_ireti C hf h dX5_smallestKind_52
set_option maxRecDepth 100000 in
set_option maxHeartbeats 4000000 in
theorem t_X5_smallestKind_21 {X : hs_T} (C : hs_C X 0 RX5 cX5_smallestKind 2 2) {res : Int32 × hs_M} (hf : hs_FI X cX5_smallestKind res) (p0 : Nat) (gp0 : hs_K p0 = 5) (p1 : Nat) (gp1 : hs_K p1 = 1) (S : hs_M) (h : f_X5_smallestKind_21 p0 p1 S = some res) : hs_Z X 2 S [(0, .ref (hs_q X p0)), (1, .ref (hs_q X p1))] [] 21 := by
  unfold f_X5_smallestKind_21 at h
  refine hs_aload_n C dX5_smallestKind_21 0 rfl rfl ?_
  refine hs_iconst (v := 1) C dX5_smallestKind_22 (by decide) ?_
  refine hs_aload_n C dX5_smallestKind_23 1 rfl rfl ?_
  refine gf_X5_69 C gp1 dX5_smallestKind_24 ?_
  obtain ⟨r_3, S_1, hc_2, h⟩ := hs_b2_s h
  refine cs_X5_72 C gp0 (m_X5_isEnough p0 gp0 (1 : Int32) (S p1 3) S hc_2) (by decide) (Nat.le_of_ble_eq_true rfl) dX5_smallestKind_27 ?_
  refine hs_if_eq (tgt := 35) C dX5_smallestKind_30 (by decide) h (fun h => ?_) (fun h => ?_)
  · skip
    refine hs_aload_n C dX5_smallestKind_35 0 rfl rfl ?_
    refine hs_iconst (v := 2) C dX5_smallestKind_36 (by decide) ?_
    refine hs_aload_n C dX5_smallestKind_37 1 rfl rfl ?_
    refine gf_X5_69 C gp1 dX5_smallestKind_38 ?_
    obtain ⟨r_6, S_4, hc_5, h⟩ := hs_b2_s h
    refine cs_X5_72 C gp0 (m_X5_isEnough p0 gp0 (2 : Int32) (S_1 p1 3) S_1 hc_5) (by decide) (Nat.le_of_ble_eq_true rfl) dX5_smallestKind_41 ?_
    refine hs_if_eq (tgt := 51) C dX5_smallestKind_44 (by decide) h (fun h => ?_) (fun h => ?_)
    · skip
      refine hs_iconst (v := 3) C dX5_smallestKind_51 (by decide) ?_
      refine hs_sub [] rfl ?_
      exact t_X5_smallestKind_52 C hf  (3 : Int32) S_4 h
    · skip
      refine hs_iconst (v := 2) C dX5_smallestKind_47 (by decide) ?_
      refine hs_goto (tgt := 52) C dX5_smallestKind_48 (by decide) ?_
      refine hs_sub [] rfl ?_
      exact t_X5_smallestKind_52 C hf  (2 : Int32) S_4 h
  · skip
    refine hs_iconst (v := 1) C dX5_smallestKind_33 (by decide) ?_
    exact hs_ireti C hf h dX5_smallestKind_34
set_option maxRecDepth 100000 in
set_option maxHeartbeats 4000000 in
theorem t_X5_smallestKind_0 {X : hs_T} (C : hs_C X 0 RX5 cX5_smallestKind 2 2) {res : Int32 × hs_M} (hf : hs_FI X cX5_smallestKind res) (p0 : Nat) (gp0 : hs_K p0 = 5) (p1 : Nat) (gp1 : hs_K p1 = 1) (S : hs_M) (h : f_X5_smallestKind_0 p0 p1 S = some res) : hs_Z X 2 S [(0, .ref (hs_q X p0)), (1, .ref (hs_q X p1))] [] 0 := by
  unfold f_X5_smallestKind_0 at h
  refine hs_aload_n C dX5_smallestKind_0 1 rfl rfl ?_
  refine gf_X5_64 C gp1 dX5_smallestKind_1 ?_
  refine hs_if_ne (tgt := 21) C dX5_smallestKind_4 (by decide) h (fun h => ?_) (fun h => ?_)
  · skip
    exact t_X5_smallestKind_21 C hf  p0 gp0 p1 gp1 S h
  · skip
    refine hs_aload_n C dX5_smallestKind_7 0 rfl rfl ?_
    refine hs_iconst (v := 0) C dX5_smallestKind_8 (by decide) ?_
    refine hs_aload_n C dX5_smallestKind_9 1 rfl rfl ?_
    refine gf_X5_69 C gp1 dX5_smallestKind_10 ?_
    obtain ⟨r_3, S_1, hc_2, h⟩ := hs_b2_s h
    refine cs_X5_72 C gp0 (m_X5_isEnough p0 gp0 (0 : Int32) (S p1 3) S hc_2) (by decide) (Nat.le_of_ble_eq_true rfl) dX5_smallestKind_13 ?_
    refine hs_if_eq (tgt := 21) C dX5_smallestKind_16 (by decide) h (fun h => ?_) (fun h => ?_)
    · skip
      exact t_X5_smallestKind_21 C hf  p0 gp0 p1 gp1 S_1 h
    · skip
      refine hs_iconst (v := 0) C dX5_smallestKind_19 (by decide) ?_
      exact hs_ireti C hf h dX5_smallestKind_20
theorem m_X5_smallestKind (i0 : Nat) (gi0 : hs_K i0 = 5) (i1 : Nat) (gi1 : hs_K i1 = 1) (S : hs_M) {r : Int32} {S' : hs_M} (h : f_X5_smallestKind i0 i1 S = some (r, S')) : hs_met 0 yX5_smallestKind cX5_smallestKind 2 (some .int) 2 (fun q => [.ref (q i0), .ref (q i1)]) S (fun q => some (.int r)) S' :=
  hs_mkI (res := (r, S')) (by decide +kernel) (by decide) (fun q => Nat.le_of_ble_eq_true rfl) fun X C hf => (t_X5_smallestKind_0 C hf i0 gi0 i1 gi1 S h)
set_option maxRecDepth 100000 in
set_option maxHeartbeats 4000000 in
theorem t_X5_chooseKind_76 {X : hs_T} (C : hs_C X 0 RX5 cX5_chooseKind 2 3) {res : Int32 × hs_M} (hf : hs_FI X cX5_chooseKind res) (p0 : Nat) (gp0 : hs_K p0 = 5) (p1 : Nat) (gp1 : hs_K p1 = 1) (S : hs_M) (h : f_X5_chooseKind_76 p0 p1 S = some res) : hs_Z X 2 S [(0, .ref (hs_q X p0)), (1, .ref (hs_q X p1))] [] 76 := by
  unfold f_X5_chooseKind_76 at h
  refine hs_aload_n C dX5_chooseKind_76 0 rfl rfl ?_
  refine gf_X5_12 C gp0 dX5_chooseKind_77 ?_
  refine hs_aload_n C dX5_chooseKind_80 1 rfl rfl ?_
  refine hs_aload_n C dX5_chooseKind_81 0 rfl rfl ?_
  refine gf_X5_34 C gp0 dX5_chooseKind_82 ?_
  obtain ⟨S_1, hc_2, h⟩ := hs_b1_s h
  refine cs_X5_50 C (hs_k50 gp0) (m_X0_follow (p0 + 4) (hs_k50 gp0) p1 gp1 (S p0 1) S hc_2) (by decide) (Nat.le_of_ble_eq_true rfl) dX5_chooseKind_85 ?_
  refine hs_aload_n C dX5_chooseKind_88 0 rfl rfl ?_
  refine hs_iconst (v := 1) C dX5_chooseKind_89 (by decide) ?_
  refine pf_X5_22 C gp0 h dX5_chooseKind_90 (fun S_3 h => ?_)
  refine hs_aload_n C dX5_chooseKind_93 0 rfl rfl ?_
  refine gf_X5_47 C gp0 dX5_chooseKind_94 ?_
  refine hs_top h (fun x_4 h => ?_)
  rcases hs_if_s h with ⟨c_5, h⟩ | ⟨c_5, h⟩
  · skip
    refine hs_lookup (off := 27) (tgt := 124) C dX5_chooseKind_97 (by decide) (by rw [c_5]; decide) (by decide) ?_
    refine hs_iconst (v := 4) C dX5_chooseKind_124 (by decide) ?_
    exact hs_ireti C hf h dX5_chooseKind_125
  · skip
    rcases hs_if_s h with ⟨c_6, h⟩ | ⟨c_6, h⟩
    · skip
      refine hs_lookup (off := 29) (tgt := 126) C dX5_chooseKind_97 (by decide) (by rw [c_6]; decide) (by decide) ?_
      refine hs_iconst (v := 3) C dX5_chooseKind_126 (by decide) ?_
      exact hs_ireti C hf h dX5_chooseKind_127
    · skip
      refine hs_lookup (off := 31) (tgt := 128) C dX5_chooseKind_97 (by decide) (by show Op.lookupswitch.offset [(0, 27), (1, 29)] (31) _ = _; rw [lv_osw c_5 (by decide)]; rw [lv_osw c_6 (by decide)]; rfl) (by decide) ?_
      refine hs_aload_n C dX5_chooseKind_128 0 rfl rfl ?_
      refine hs_aload_n C dX5_chooseKind_129 1 rfl rfl ?_
      obtain ⟨r_9, S_7, hc_8, h⟩ := hs_b2_s h
      refine cs_X5_54 C gp0 (m_X5_smallestKind p0 gp0 p1 gp1 S_3 hc_8) (by decide) (Nat.le_of_ble_eq_true rfl) dX5_chooseKind_130 ?_
      exact hs_ireti C hf h dX5_chooseKind_133
set_option maxRecDepth 100000 in
set_option maxHeartbeats 4000000 in
theorem t_X5_chooseKind_73 {X : hs_T} (C : hs_C X 0 RX5 cX5_chooseKind 2 3) {res : Int32 × hs_M} (hf : hs_FI X cX5_chooseKind res) (p0 : Nat) (gp0 : hs_K p0 = 5) (p1 : Nat) (gp1 : hs_K p1 = 1) (q0 : Nat) (gq0 : hs_K q0 = 5) (y1 : Int32) (S : hs_M) (h : f_X5_chooseKind_73 p0 p1 q0 y1 S = some res) : hs_Z X 2 S [(0, .ref (hs_q X p0)), (1, .ref (hs_q X p1))] [.int y1, .ref (hs_q X q0)] 73 := by
  unfold f_X5_chooseKind_73 at h
  obtain ⟨S_1, hc_2, h⟩ := hs_b1_s h
  refine cs_X5_40 C gq0 (m_X5_enter q0 gq0 y1 S hc_2) (by decide) (Nat.le_of_ble_eq_true rfl) dX5_chooseKind_73 ?_
  exact t_X5_chooseKind_76 C hf  p0 gp0 p1 gp1 S_1 h
set_option maxRecDepth 100000 in
set_option maxHeartbeats 4000000 in
theorem t_X5_chooseKind_41 {X : hs_T} (C : hs_C X 0 RX5 cX5_chooseKind 2 3) {res : Int32 × hs_M} (hf : hs_FI X cX5_chooseKind res) (p0 : Nat) (gp0 : hs_K p0 = 5) (p1 : Nat) (gp1 : hs_K p1 = 1) (S : hs_M) (h : f_X5_chooseKind_41 p0 p1 S = some res) : hs_Z X 2 S [(0, .ref (hs_q X p0)), (1, .ref (hs_q X p1))] [] 41 := by
  unfold f_X5_chooseKind_41 at h
  refine hs_aload_n C dX5_chooseKind_41 0 rfl rfl ?_
  refine hs_iconst (v := 0) C dX5_chooseKind_42 (by decide) ?_
  obtain ⟨S_1, hc_2, h⟩ := hs_b1_s h
  refine cs_X5_40 C gp0 (m_X5_enter p0 gp0 (0 : Int32) S hc_2) (by decide) (Nat.le_of_ble_eq_true rfl) dX5_chooseKind_43 ?_
  refine hs_goto (tgt := 76) C dX5_chooseKind_46 (by decide) ?_
  exact t_X5_chooseKind_76 C hf  p0 gp0 p1 gp1 S_1 h
set_option maxRecDepth 100000 in
set_option maxHeartbeats 4000000 in
theorem t_X5_chooseKind_0 {X : hs_T} (C : hs_C X 0 RX5 cX5_chooseKind 2 3) {res : Int32 × hs_M} (hf : hs_FI X cX5_chooseKind res) (p0 : Nat) (gp0 : hs_K p0 = 5) (p1 : Nat) (gp1 : hs_K p1 = 1) (S : hs_M) (h : f_X5_chooseKind_0 p0 p1 S = some res) : hs_Z X 2 S [(0, .ref (hs_q X p0)), (1, .ref (hs_q X p1))] [] 0 := by
  unfold f_X5_chooseKind_0 at h
  refine hs_aload_n C dX5_chooseKind_0 0 rfl rfl ?_
  refine gf_X5_22 C gp0 dX5_chooseKind_1 ?_
  refine hs_if_eq (tgt := 41) C dX5_chooseKind_4 (by decide) h (fun h => ?_) (fun h => ?_)
  · skip
    exact t_X5_chooseKind_41 C hf  p0 gp0 p1 gp1 S h
  · skip
    refine hs_aload_n C dX5_chooseKind_7 0 rfl rfl ?_
    refine gf_X5_12 C gp0 dX5_chooseKind_8 ?_
    refine hs_aload_n C dX5_chooseKind_11 1 rfl rfl ?_
    obtain ⟨r_3, S_1, hc_2, h⟩ := hs_b2_s h
    refine cs_X5_26 C (hs_k50 gp0) (m_X0_isOf (p0 + 4) (hs_k50 gp0) p1 gp1 S hc_2) (by decide) (Nat.le_of_ble_eq_true rfl) dX5_chooseKind_12 ?_
    refine hs_if_eq (tgt := 41) C dX5_chooseKind_15 (by decide) h (fun h => ?_) (fun h => ?_)
    · skip
      exact t_X5_chooseKind_41 C hf  p0 gp0 p1 gp1 S_1 h
    · skip
      refine hs_aload_n C dX5_chooseKind_18 0 rfl rfl ?_
      refine gf_X5_12 C gp0 dX5_chooseKind_19 ?_
      refine gf_X5_30 C (hs_k50 gp0) dX5_chooseKind_22 ?_
      refine hs_aload_n C dX5_chooseKind_25 0 rfl rfl ?_
      refine gf_X5_34 C gp0 dX5_chooseKind_26 ?_
      refine hs_icmp_ne (tgt := 41) C dX5_chooseKind_29 (by decide) h (fun h => ?_) (fun h => ?_)
      · skip
        exact t_X5_chooseKind_41 C hf  p0 gp0 p1 gp1 S_1 h
      · skip
        refine hs_aload_n C dX5_chooseKind_32 0 rfl rfl ?_
        refine gf_X5_37 C gp0 dX5_chooseKind_33 ?_
        refine hs_bipush (v := 20) C dX5_chooseKind_36 (by decide) ?_
        refine hs_icmp_ne (tgt := 49) C dX5_chooseKind_38 (by decide) h (fun h => ?_) (fun h => ?_)
        · skip
          refine hs_aload_n C dX5_chooseKind_49 0 rfl rfl ?_
          refine gf_X5_12 C gp0 dX5_chooseKind_50 ?_
          refine hs_aload_n C dX5_chooseKind_53 1 rfl rfl ?_
          obtain ⟨r_6, S_4, hc_5, h⟩ := hs_b2_s h
          refine cs_X5_44 C (hs_k50 gp0) (m_X0_goesAlong (p0 + 4) (hs_k50 gp0) p1 gp1 S_1 hc_5) (by decide) (Nat.le_of_ble_eq_true rfl) dX5_chooseKind_54 ?_
          refine hs_if_ne (tgt := 76) C dX5_chooseKind_57 (by decide) h (fun h => ?_) (fun h => ?_)
          · skip
            exact t_X5_chooseKind_76 C hf  p0 gp0 p1 gp1 S_4 h
          · skip
            refine hs_aload_n C dX5_chooseKind_60 0 rfl rfl ?_
            refine hs_aload_n C dX5_chooseKind_61 0 rfl rfl ?_
            refine gf_X5_47 C gp0 dX5_chooseKind_62 ?_
            refine hs_if_ne (tgt := 72) C dX5_chooseKind_65 (by decide) h (fun h => ?_) (fun h => ?_)
            · skip
              refine hs_iconst (v := 1) C dX5_chooseKind_72 (by decide) ?_
              exact t_X5_chooseKind_73 C hf  p0 gp0 p1 gp1 p0 gp0 (1 : Int32) S_4 h
            · skip
              refine hs_iconst (v := 0) C dX5_chooseKind_68 (by decide) ?_
              refine hs_goto (tgt := 73) C dX5_chooseKind_69 (by decide) ?_
              exact t_X5_chooseKind_73 C hf  p0 gp0 p1 gp1 p0 gp0 (0 : Int32) S_4 h
        · skip
          exact t_X5_chooseKind_41 C hf  p0 gp0 p1 gp1 S_1 h
theorem m_X5_chooseKind (i0 : Nat) (gi0 : hs_K i0 = 5) (i1 : Nat) (gi1 : hs_K i1 = 1) (S : hs_M) {r : Int32} {S' : hs_M} (h : f_X5_chooseKind i0 i1 S = some (r, S')) : hs_met 0 yX5_chooseKind cX5_chooseKind 2 (some .int) 3 (fun q => [.ref (q i0), .ref (q i1)]) S (fun q => some (.int r)) S' :=
  hs_mkI (res := (r, S')) (by decide +kernel) (by decide) (fun q => Nat.le_of_ble_eq_true rfl) fun X C hf => (t_X5_chooseKind_0 C hf i0 gi0 i1 gi1 S h)
set_option maxRecDepth 100000 in
set_option maxHeartbeats 4000000 in
theorem t_X5_noteSent_72 {X : hs_T} (C : hs_C X 0 RX5 cX5_noteSent 3 1) {res : hs_M} (hf : hs_FV X cX5_noteSent res) (S : hs_M) (h : f_X5_noteSent_72  S = some res) : hs_Z X 3 S [] [] 72 := by
  unfold f_X5_noteSent_72 at h
  exact hs_vret C hf h dX5_noteSent_72
set_option maxRecDepth 100000 in
set_option maxHeartbeats 4000000 in
theorem t_X5_noteSent_16 {X : hs_T} (C : hs_C X 0 RX5 cX5_noteSent 3 1) {res : hs_M} (hf : hs_FV X cX5_noteSent res) (p0 : Nat) (gp0 : hs_K p0 = 5) (x2 : Int32) (q0 : Nat) (gq0 : hs_K q0 = 5) (y1 : Int32) (S : hs_M) (h : f_X5_noteSent_16 p0 x2 q0 y1 S = some res) : hs_Z X 3 S [(0, .ref (hs_q X p0)), (2, .int x2)] [.int y1, .ref (hs_q X q0)] 16 := by
  unfold f_X5_noteSent_16 at h
  refine pf_X5_37 C gq0 h dX5_noteSent_16 (fun S_1 h => ?_)
  refine hs_aload_n C dX5_noteSent_19 0 rfl rfl ?_
  refine gf_X5_18 C gp0 dX5_noteSent_20 ?_
  refine hs_aload_n C dX5_noteSent_23 0 rfl rfl ?_
  refine gf_X5_58 C gp0 dX5_noteSent_24 ?_
  refine hs_iconst (v := 3) C dX5_noteSent_27 (by decide) ?_
  refine hs_iand C dX5_noteSent_28 ?_
  refine hs_iload_n C dX5_noteSent_29 1 rfl rfl ?_
  refine hs_ast (kd := 8) C (Or.inl rfl) rfl (hs_k56 gp0) h dX5_noteSent_30 (fun S_2 h => ?_)
  refine hs_aload_n C dX5_noteSent_31 0 rfl rfl ?_
  refine hs_dup C dX5_noteSent_32 rfl ?_
  refine gf_X5_58 C gp0 dX5_noteSent_33 ?_
  refine hs_iconst (v := 1) C dX5_noteSent_36 (by decide) ?_
  refine hs_iadd C dX5_noteSent_37 ?_
  refine pf_X5_58 C gp0 h dX5_noteSent_38 (fun S_3 h => ?_)
  refine hs_aload_n C dX5_noteSent_41 0 rfl rfl ?_
  refine hs_dup C dX5_noteSent_42 rfl ?_
  refine gf_X5_61 C gp0 dX5_noteSent_43 ?_
  refine hs_iconst (v := 1) C dX5_noteSent_46 (by decide) ?_
  refine hs_iadd C dX5_noteSent_47 ?_
  refine pf_X5_61 C gp0 h dX5_noteSent_48 (fun S_4 h => ?_)
  refine hs_aload_n C dX5_noteSent_51 0 rfl rfl ?_
  refine gf_X5_47 C gp0 dX5_noteSent_52 ?_
  refine hs_iconst (v := 2) C dX5_noteSent_55 (by decide) ?_
  refine hs_icmp_eq (tgt := 72) C dX5_noteSent_56 (by decide) h (fun h => ?_) (fun h => ?_)
  · skip
    refine hs_sub [] rfl ?_
    exact t_X5_noteSent_72 C hf   S_4 h
  · skip
    refine hs_aload_n C dX5_noteSent_59 0 rfl rfl ?_
    refine gf_X5_61 C gp0 dX5_noteSent_60 ?_
    refine hs_iconst (v := 3) C dX5_noteSent_63 (by decide) ?_
    refine hs_icmp_ne (tgt := 72) C dX5_noteSent_64 (by decide) h (fun h => ?_) (fun h => ?_)
    · skip
      refine hs_sub [] rfl ?_
      exact t_X5_noteSent_72 C hf   S_4 h
    · skip
      refine hs_aload_n C dX5_noteSent_67 0 rfl rfl ?_
      refine hs_iconst (v := 2) C dX5_noteSent_68 (by decide) ?_
      obtain ⟨S_5, hc_6, h⟩ := hs_b1_s h
      refine cs_X5_40 C gp0 (m_X5_enter p0 gp0 (2 : Int32) S_4 hc_6) (by decide) (Nat.le_of_ble_eq_true rfl) dX5_noteSent_69 ?_
      refine hs_sub [] rfl ?_
      exact t_X5_noteSent_72 C hf   S_5 h
set_option maxRecDepth 100000 in
set_option maxHeartbeats 4000000 in
theorem t_X5_noteSent_0 {X : hs_T} (C : hs_C X 0 RX5 cX5_noteSent 3 1) {res : hs_M} (hf : hs_FV X cX5_noteSent res) (p0 : Nat) (gp0 : hs_K p0 = 5) (x1 : Int32) (x2 : Int32) (S : hs_M) (h : f_X5_noteSent_0 p0 x1 x2 S = some res) : hs_Z X 3 S [(0, .ref (hs_q X p0)), (1, .int x1), (2, .int x2)] [] 0 := by
  unfold f_X5_noteSent_0 at h
  refine hs_aload_n C dX5_noteSent_0 0 rfl rfl ?_
  refine hs_iload_n C dX5_noteSent_1 1 rfl rfl ?_
  refine hs_iconst (v := 4) C dX5_noteSent_2 (by decide) ?_
  refine hs_icmp_ne (tgt := 10) C dX5_noteSent_3 (by decide) h (fun h => ?_) (fun h => ?_)
  · skip
    refine hs_aload_n C dX5_noteSent_10 0 rfl rfl ?_
    refine gf_X5_37 C gp0 dX5_noteSent_11 ?_
    refine hs_iconst (v := 1) C dX5_noteSent_14 (by decide) ?_
    refine hs_iadd C dX5_noteSent_15 ?_
    refine hs_sub [0, 2] rfl ?_
    exact t_X5_noteSent_16 C hf  p0 gp0 x2 p0 gp0 ((S p0 4) + (1 : Int32)) S h
  · skip
    refine hs_iconst (v := 0) C dX5_noteSent_6 (by decide) ?_
    refine hs_goto (tgt := 16) C dX5_noteSent_7 (by decide) ?_
    refine hs_sub [0, 2] rfl ?_
    exact t_X5_noteSent_16 C hf  p0 gp0 x2 p0 gp0 (0 : Int32) S h
theorem m_X5_noteSent (i0 : Nat) (gi0 : hs_K i0 = 5) (a1 : Int32) (a2 : Int32) (S : hs_M) {S' : hs_M} (h : f_X5_noteSent i0 a1 a2 S = some S') : hs_met 0 yX5_noteSent cX5_noteSent 3 none 1 (fun q => [.ref (q i0), .int a1, .int a2]) S (fun q => none) S' :=
  hs_mkV (res := S') (by decide +kernel) (by decide) (fun q => Nat.le_of_ble_eq_true rfl) fun X C hf => (t_X5_noteSent_0 C hf i0 gi0 a1 a2 S h)
set_option maxRecDepth 100000 in
set_option maxHeartbeats 4000000 in
theorem t_X6_isNoPacket_20 {X : hs_T} (C : hs_C X 0 RX6 cX6_isNoPacket 2 0) {res : Int32 × hs_M} (hf : hs_FB X cX6_isNoPacket res) (y0 : Int32) (S : hs_M) (h : f_X6_isNoPacket_20 y0 S = some res) : hs_Z X 2 S [] [.int y0] 20 := by
  unfold f_X6_isNoPacket_20 at h
  exact hs_iretb C hf h dX6_isNoPacket_20
set_option maxRecDepth 100000 in
set_option maxHeartbeats 4000000 in
theorem t_X6_isNoPacket_15 {X : hs_T} (C : hs_C X 0 RX6 cX6_isNoPacket 2 0) {res : Int32 × hs_M} (hf : hs_FB X cX6_isNoPacket res) (S : hs_M) (h : f_X6_isNoPacket_15  S = some res) : hs_Z X 2 S [] [] 15 := by
  unfold f_X6_isNoPacket_15 at h
  refine hs_iconst (v := 1) C dX6_isNoPacket_15 (by decide) ?_
  refine hs_goto (tgt := 20) C dX6_isNoPacket_16 (by decide) ?_
  exact t_X6_isNoPacket_20 C hf  (1 : Int32) S h
set_option maxRecDepth 100000 in
set_option maxHeartbeats 4000000 in
theorem t_X6_isNoPacket_0 {X : hs_T} (C : hs_C X 0 RX6 cX6_isNoPacket 2 0) {res : Int32 × hs_M} (hf : hs_FB X cX6_isNoPacket res) (x1 : Int32) (S : hs_M) (h : f_X6_isNoPacket_0 x1 S = some res) : hs_Z X 2 S [(0, .ref (hs_q X 0)), (1, .int x1)] [] 0 := by
  unfold f_X6_isNoPacket_0 at h
  refine hs_iload_n C dX6_isNoPacket_0 1 rfl rfl ?_
  refine hs_if_lt (tgt := 15) C dX6_isNoPacket_1 (by decide) h (fun h => ?_) (fun h => ?_)
  · skip
    refine hs_sub [] rfl ?_
    exact t_X6_isNoPacket_15 C hf   S h
  · skip
    refine hs_iload_n C dX6_isNoPacket_4 1 rfl rfl ?_
    refine hs_aload_n C dX6_isNoPacket_5 0 rfl rfl ?_
    refine gf_X6_19 C dX6_isNoPacket_6 ?_
    refine gf_X6_108 C dX6_isNoPacket_9 ?_
    refine hs_icmp_lt (tgt := 19) C dX6_isNoPacket_12 (by decide) h (fun h => ?_) (fun h => ?_)
    · skip
      refine hs_iconst (v := 0) C dX6_isNoPacket_19 (by decide) ?_
      refine hs_sub [] rfl ?_
      exact t_X6_isNoPacket_20 C hf  (0 : Int32) S h
    · skip
      refine hs_sub [] rfl ?_
      exact t_X6_isNoPacket_15 C hf   S h
theorem m_X6_isNoPacket (a1 : Int32) (S : hs_M) {r : Int32} {S' : hs_M} (h : f_X6_isNoPacket a1 S = some (r, S')) : hs_met 0 yX6_isNoPacket cX6_isNoPacket 2 (some .boolean) 0 (fun q => [.ref (q 0), .int a1]) S (fun q => some (.int r)) S' :=
  hs_mkB (res := (r, S')) (by decide +kernel) (by decide) (fun q => Nat.le_of_ble_eq_true rfl) fun X C hf => (t_X6_isNoPacket_0 C hf a1 S h)
set_option maxRecDepth 100000 in
set_option maxHeartbeats 4000000 in
theorem t_X6_isNoByte_25 {X : hs_T} (C : hs_C X 0 RX6 cX6_isNoByte 3 0) {res : Int32 × hs_M} (hf : hs_FB X cX6_isNoByte res) (y0 : Int32) (S : hs_M) (h : f_X6_isNoByte_25 y0 S = some res) : hs_Z X 3 S [] [.int y0] 25 := by
  unfold f_X6_isNoByte_25 at h
  exact hs_iretb C hf h dX6_isNoByte_25
set_option maxRecDepth 100000 in
set_option maxHeartbeats 4000000 in
theorem t_X6_isNoByte_20 {X : hs_T} (C : hs_C X 0 RX6 cX6_isNoByte 3 0) {res : Int32 × hs_M} (hf : hs_FB X cX6_isNoByte res) (S : hs_M) (h : f_X6_isNoByte_20  S = some res) : hs_Z X 3 S [] [] 20 := by
  unfold f_X6_isNoByte_20 at h
  refine hs_iconst (v := 1) C dX6_isNoByte_20 (by decide) ?_
  refine hs_goto (tgt := 25) C dX6_isNoByte_21 (by decide) ?_
  exact t_X6_isNoByte_25 C hf  (1 : Int32) S h
set_option maxRecDepth 100000 in
set_option maxHeartbeats 4000000 in
theorem t_X6_isNoByte_0 {X : hs_T} (C : hs_C X 0 RX6 cX6_isNoByte 3 0) {res : Int32 × hs_M} (hf : hs_FB X cX6_isNoByte res) (x1 : Int32) (x2 : Int32) (S : hs_M) (h : f_X6_isNoByte_0 x1 x2 S = some res) : hs_Z X 3 S [(0, .ref (hs_q X 0)), (1, .int x1), (2, .int x2)] [] 0 := by
  unfold f_X6_isNoByte_0 at h
  refine hs_iload_n C dX6_isNoByte_0 2 rfl rfl ?_
  refine hs_if_lt (tgt := 20) C dX6_isNoByte_1 (by decide) h (fun h => ?_) (fun h => ?_)
  · skip
    refine hs_sub [] rfl ?_
    exact t_X6_isNoByte_20 C hf   S h
  · skip
    refine hs_iload_n C dX6_isNoByte_4 2 rfl rfl ?_
    refine hs_aload_n C dX6_isNoByte_5 0 rfl rfl ?_
    refine gf_X6_19 C dX6_isNoByte_6 ?_
    refine gf_X6_114 C dX6_isNoByte_9 ?_
    refine hs_iload_n C dX6_isNoByte_12 1 rfl rfl ?_
    refine hs_rld (kd := 10) (t0 := 1) (Cn := RX3) C rfl rfl (show hs_K 5 = 10 by decide +kernel) rfl (by decide) rfl rfl h dX6_isNoByte_13 (fun h => ?_)
    refine hs_topr h (fun p_1 h => ?_)
    obtain ⟨g_2, h⟩ := hs_kg_s h
    refine gf_X6_101 C g_2 dX6_isNoByte_14 ?_
    refine hs_icmp_lt (tgt := 24) C dX6_isNoByte_17 (by decide) h (fun h => ?_) (fun h => ?_)
    · skip
      refine hs_iconst (v := 0) C dX6_isNoByte_24 (by decide) ?_
      refine hs_sub [] rfl ?_
      exact t_X6_isNoByte_25 C hf  (0 : Int32) S h
    · skip
      refine hs_sub [] rfl ?_
      exact t_X6_isNoByte_20 C hf   S h
theorem m_X6_isNoByte (a1 : Int32) (a2 : Int32) (S : hs_M) {r : Int32} {S' : hs_M} (h : f_X6_isNoByte a1 a2 S = some (r, S')) : hs_met 0 yX6_isNoByte cX6_isNoByte 3 (some .boolean) 0 (fun q => [.ref (q 0), .int a1, .int a2]) S (fun q => some (.int r)) S' :=
  hs_mkB (res := (r, S')) (by decide +kernel) (by decide) (fun q => Nat.le_of_ble_eq_true rfl) fun X C hf => (t_X6_isNoByte_0 C hf a1 a2 S h)
set_option maxRecDepth 100000 in
set_option maxHeartbeats 4000000 in
theorem t_X6_keepTrial_0 {X : hs_T} (C : hs_C X 0 RX6 cX6_keepTrial 2 0) {res : hs_M} (hf : hs_FV X cX6_keepTrial res) (S : hs_M) (h : f_X6_keepTrial_0  S = some res) : hs_Z X 2 S [(0, .ref (hs_q X 0))] [] 0 := by
  unfold f_X6_keepTrial_0 at h
  refine hs_aload_n C dX6_keepTrial_0 0 rfl rfl ?_
  refine gf_X6_39 C dX6_keepTrial_1 ?_
  refine hs_topr h (fun p_1 h => ?_)
  obtain ⟨g_2, h⟩ := hs_kg_s h
  refine hs_astore_n (lv' := [(1, .ref (hs_q X p_1)), (0, .ref (hs_q X 0))]) C dX6_keepTrial_4 rfl (by decide) rfl ?_
  refine hs_aload_n C dX6_keepTrial_5 1 rfl rfl ?_
  refine hs_aload_n C dX6_keepTrial_6 1 rfl rfl ?_
  refine gf_X6_42 C dX6_keepTrial_7 ?_
  refine hs_topr h (fun p_3 h => ?_)
  obtain ⟨g_4, h⟩ := hs_kg_s h
  refine pf_X6_39 C g_4 h dX6_keepTrial_10 (fun S_5 h => ?_)
  refine hs_aload_n C dX6_keepTrial_13 1 rfl rfl ?_
  refine hs_aload_n C dX6_keepTrial_14 0 rfl rfl ?_
  refine pf_X6_42 C g_2 h dX6_keepTrial_15 (fun S_6 h => ?_)
  exact hs_vret C hf h dX6_keepTrial_18
theorem m_X6_keepTrial  (S : hs_M) {S' : hs_M} (h : f_X6_keepTrial  S = some S') : hs_met 0 yX6_keepTrial cX6_keepTrial 2 none 0 (fun q => [.ref (q 0)]) S (fun q => none) S' :=
  hs_mkV (res := S') (by decide +kernel) (by decide) (fun q => Nat.le_of_ble_eq_true rfl) fun X C hf => (t_X6_keepTrial_0 C hf  S h)
set_option maxRecDepth 100000 in
set_option maxHeartbeats 4000000 in
theorem t_X6_isNotInTwoBytes_15 {X : hs_T} (C : hs_C X 0 RX6 cX6_isNotInTwoBytes 1 0) {res : Int32 × hs_M} (hf : hs_FB X cX6_isNotInTwoBytes res) (y0 : Int32) (S : hs_M) (h : f_X6_isNotInTwoBytes_15 y0 S = some res) : hs_Z X 1 S [] [.int y0] 15 := by
  unfold f_X6_isNotInTwoBytes_15 at h
  exact hs_iretb C hf h dX6_isNotInTwoBytes_15
set_option maxRecDepth 100000 in
set_option maxHeartbeats 4000000 in
theorem t_X6_isNotInTwoBytes_10 {X : hs_T} (C : hs_C X 0 RX6 cX6_isNotInTwoBytes 1 0) {res : Int32 × hs_M} (hf : hs_FB X cX6_isNotInTwoBytes res) (S : hs_M) (h : f_X6_isNotInTwoBytes_10  S = some res) : hs_Z X 1 S [] [] 10 := by
  unfold f_X6_isNotInTwoBytes_10 at h
  refine hs_iconst (v := 1) C dX6_isNotInTwoBytes_10 (by decide) ?_
  refine hs_goto (tgt := 15) C dX6_isNotInTwoBytes_11 (by decide) ?_
  exact t_X6_isNotInTwoBytes_15 C hf  (1 : Int32) S h
set_option maxRecDepth 100000 in
set_option maxHeartbeats 4000000 in
theorem t_X6_isNotInTwoBytes_0 {X : hs_T} (C : hs_C X 0 RX6 cX6_isNotInTwoBytes 1 0) {res : Int32 × hs_M} (hf : hs_FB X cX6_isNotInTwoBytes res) (x0 : Int32) (S : hs_M) (h : f_X6_isNotInTwoBytes_0 x0 S = some res) : hs_Z X 1 S [(0, .int x0)] [] 0 := by
  unfold f_X6_isNotInTwoBytes_0 at h
  refine hs_iload_n C dX6_isNotInTwoBytes_0 0 rfl rfl ?_
  refine hs_if_lt (tgt := 10) C dX6_isNotInTwoBytes_1 (by decide) h (fun h => ?_) (fun h => ?_)
  · skip
    refine hs_sub [] rfl ?_
    exact t_X6_isNotInTwoBytes_10 C hf   S h
  · skip
    refine hs_iload_n C dX6_isNotInTwoBytes_4 0 rfl rfl ?_
    refine hs_ldc C ww_241 dX6_isNotInTwoBytes_5 ?_
    refine hs_icmp_le (tgt := 14) C dX6_isNotInTwoBytes_7 (by decide) h (fun h => ?_) (fun h => ?_)
    · skip
      refine hs_iconst (v := 0) C dX6_isNotInTwoBytes_14 (by decide) ?_
      refine hs_sub [] rfl ?_
      exact t_X6_isNotInTwoBytes_15 C hf  (0 : Int32) S h
    · skip
      refine hs_sub [] rfl ?_
      exact t_X6_isNotInTwoBytes_10 C hf   S h
theorem m_X6_isNotInTwoBytes (a0 : Int32) (S : hs_M) {r : Int32} {S' : hs_M} (h : f_X6_isNotInTwoBytes a0 S = some (r, S')) : hs_met 0 yX6_isNotInTwoBytes cX6_isNotInTwoBytes 1 (some .boolean) 0 (fun q => [.int a0]) S (fun q => some (.int r)) S' :=
  hs_mkB (res := (r, S')) (by decide +kernel) (by decide) (fun q => Nat.le_of_ble_eq_true rfl) fun X C hf => (t_X6_isNotInTwoBytes_0 C hf a0 S h)
set_option maxRecDepth 100000 in
set_option maxHeartbeats 4000000 in
theorem t_X6_isNoFlow_14 {X : hs_T} (C : hs_C X 0 RX6 cX6_isNoFlow 1 0) {res : Int32 × hs_M} (hf : hs_FB X cX6_isNoFlow res) (y0 : Int32) (S : hs_M) (h : f_X6_isNoFlow_14 y0 S = some res) : hs_Z X 1 S [] [.int y0] 14 := by
  unfold f_X6_isNoFlow_14 at h
  exact hs_iretb C hf h dX6_isNoFlow_14
set_option maxRecDepth 100000 in
set_option maxHeartbeats 4000000 in
theorem t_X6_isNoFlow_9 {X : hs_T} (C : hs_C X 0 RX6 cX6_isNoFlow 1 0) {res : Int32 × hs_M} (hf : hs_FB X cX6_isNoFlow res) (S : hs_M) (h : f_X6_isNoFlow_9  S = some res) : hs_Z X 1 S [] [] 9 := by
  unfold f_X6_isNoFlow_9 at h
  refine hs_iconst (v := 1) C dX6_isNoFlow_9 (by decide) ?_
  refine hs_goto (tgt := 14) C dX6_isNoFlow_10 (by decide) ?_
  exact t_X6_isNoFlow_14 C hf  (1 : Int32) S h
set_option maxRecDepth 100000 in
set_option maxHeartbeats 4000000 in
theorem t_X6_isNoFlow_0 {X : hs_T} (C : hs_C X 0 RX6 cX6_isNoFlow 1 0) {res : Int32 × hs_M} (hf : hs_FB X cX6_isNoFlow res) (x0 : Int32) (S : hs_M) (h : f_X6_isNoFlow_0 x0 S = some res) : hs_Z X 1 S [(0, .int x0)] [] 0 := by
  unfold f_X6_isNoFlow_0 at h
  refine hs_iload_n C dX6_isNoFlow_0 0 rfl rfl ?_
  refine hs_if_lt (tgt := 9) C dX6_isNoFlow_1 (by decide) h (fun h => ?_) (fun h => ?_)
  · skip
    refine hs_sub [] rfl ?_
    exact t_X6_isNoFlow_9 C hf   S h
  · skip
    refine hs_iload_n C dX6_isNoFlow_4 0 rfl rfl ?_
    refine hs_iconst (v := 4) C dX6_isNoFlow_5 (by decide) ?_
    refine hs_icmp_lt (tgt := 13) C dX6_isNoFlow_6 (by decide) h (fun h => ?_) (fun h => ?_)
    · skip
      refine hs_iconst (v := 0) C dX6_isNoFlow_13 (by decide) ?_
      refine hs_sub [] rfl ?_
      exact t_X6_isNoFlow_14 C hf  (0 : Int32) S h
    · skip
      refine hs_sub [] rfl ?_
      exact t_X6_isNoFlow_9 C hf   S h
theorem m_X6_isNoFlow (a0 : Int32) (S : hs_M) {r : Int32} {S' : hs_M} (h : f_X6_isNoFlow a0 S = some (r, S')) : hs_met 0 yX6_isNoFlow cX6_isNoFlow 1 (some .boolean) 0 (fun q => [.int a0]) S (fun q => some (.int r)) S' :=
  hs_mkB (res := (r, S')) (by decide +kernel) (by decide) (fun q => Nat.le_of_ble_eq_true rfl) fun X C hf => (t_X6_isNoFlow_0 C hf a0 S h)
set_option maxRecDepth 100000 in
set_option maxHeartbeats 4000000 in
theorem t_X6_line_0 {X : hs_T} (C : hs_C X 0 RX6 cX6_line 1 0) {res : Int32 × hs_M} (hf : hs_FI X cX6_line res) (S : hs_M) (h : f_X6_line_0  S = some res) : hs_Z X 1 S [(0, .ref (hs_q X 0))] [] 0 := by
  unfold f_X6_line_0 at h
  refine hs_aload_n C dX6_line_0 0 rfl rfl ?_
  refine gf_X6_19 C dX6_line_1 ?_
  refine gf_X6_108 C dX6_line_4 ?_
  exact hs_ireti C hf h dX6_line_7
theorem m_X6_line  (S : hs_M) {r : Int32} {S' : hs_M} (h : f_X6_line  S = some (r, S')) : hs_met 0 yX6_line cX6_line 1 (some .int) 0 (fun q => [.ref (q 0)]) S (fun q => some (.int r)) S' :=
  hs_mkI (res := (r, S')) (by decide +kernel) (by decide) (fun q => Nat.le_of_ble_eq_true rfl) fun X C hf => (t_X6_line_0 C hf  S h)
