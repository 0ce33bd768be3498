set_option maxRecDepth 100000 in
set_option maxHeartbeats 4000000 in
theorem t_X0_complete_0 {X : hs_T} (C : hs_C X 0 RX0 cX0_complete 3 0) {res : hs_M} (hf : hs_FV X cX0_complete res) (p0 : Nat) (gp0 : hs_K p0 = 0) (p1 : Nat) (gp1 : hs_K p1 = 1) (x2 : Int32) (S : hs_M) (h : f_X0_complete_0 p0 p1 x2 S = some res) : hs_Z X 3 S [(0, .ref (hs_q X p0)), (1, .ref (hs_q X p1)), (2, .int x2)] [] 0 := by
  unfold f_X0_complete_0 at h
  refine hs_aload_n C dX0_complete_0 1 rfl rfl ?_
  refine hs_aload_n C dX0_complete_1 0 rfl rfl ?_
  refine gf_X0_9 C gp0 dX0_complete_2 ?_
  refine pf_X0_15 C gp1 h dX0_complete_5 (fun S_1 h => ?_)
  refine hs_aload_n C dX0_complete_8 1 rfl rfl ?_
  refine hs_aload_n C dX0_complete_9 0 rfl rfl ?_
  refine gf_X0_18 C gp0 dX0_complete_10 ?_
  refine pf_X0_21 C gp1 h dX0_complete_13 (fun S_2 h => ?_)
  refine hs_aload_n C dX0_complete_16 1 rfl rfl ?_
  refine hs_iload_n C dX0_complete_17 2 rfl rfl ?_
  refine pf_X0_43 C gp1 h dX0_complete_18 (fun S_3 h => ?_)
  refine hs_aload_n C dX0_complete_21 1 rfl rfl ?_
  refine hs_aload_n C dX0_complete_22 0 rfl rfl ?_
  refine gf_X0_26 C gp0 dX0_complete_23 ?_
  refine hs_iload_n C dX0_complete_26 2 rfl rfl ?_
  refine hs_aload_n C dX0_complete_27 0 rfl rfl ?_
  refine gf_X0_29 C gp0 dX0_complete_28 ?_
  refine hs_imul C dX0_complete_31 ?_
  refine hs_iadd C dX0_complete_32 ?_
  refine pf_X0_46 C gp1 h dX0_complete_33 (fun S_4 h => ?_)
  refine hs_aload_n C dX0_complete_36 1 rfl rfl ?_
  refine hs_aload_n C dX0_complete_37 0 rfl rfl ?_
  refine gf_X0_36 C gp0 dX0_complete_38 ?_
  refine hs_iload_n C dX0_complete_41 2 rfl rfl ?_
  refine hs_iadd C dX0_complete_42 ?_
  refine hs_ldc C ww_9 dX0_complete_43 ?_
  refine hs_iand C dX0_complete_45 ?_
  refine pf_X0_50 C gp1 h dX0_complete_46 (fun S_5 h => ?_)
  exact hs_vret C hf h dX0_complete_49
theorem m_X0_complete (i0 : Nat) (gi0 : hs_K i0 = 0) (i1 : Nat) (gi1 : hs_K i1 = 1) (a2 : Int32) (S : hs_M) {S' : hs_M} (h : f_X0_complete i0 i1 a2 S = some S') : hs_met 0 yX0_complete cX0_complete 3 none 0 (fun q => [.ref (q i0), .ref (q i1), .int a2]) S (fun q => none) S' :=
  hs_mkV (res := S') (by decide +kernel) (by decide) (fun q => Nat.le_of_ble_eq_true rfl) fun X C hf => (t_X0_complete_0 C hf i0 gi0 i1 gi1 a2 S h)
set_option maxRecDepth 100000 in
set_option maxHeartbeats 4000000 in
theorem t_X0_phaseOf_0 {X : hs_T} (C : hs_C X 0 RX0 cX0_phaseOf 2 0) {res : Int32 × hs_M} (hf : hs_FI X cX0_phaseOf res) (p0 : Nat) (gp0 : hs_K p0 = 1) (x1 : Int32) (S : hs_M) (h : f_X0_phaseOf_0 p0 x1 S = some res) : hs_Z X 2 S [(0, .ref (hs_q X p0)), (1, .int x1)] [] 0 := by
  unfold f_X0_phaseOf_0 at h
  refine hs_aload_n C dX0_phaseOf_0 0 rfl rfl ?_
  refine gf_X0_46 C gp0 dX0_phaseOf_1 ?_
  refine hs_aload_n C dX0_phaseOf_4 0 rfl rfl ?_
  refine gf_X0_43 C gp0 dX0_phaseOf_5 ?_
  refine hs_iload_n C dX0_phaseOf_8 1 rfl rfl ?_
  refine hs_imul C dX0_phaseOf_9 ?_
  refine hs_isub C dX0_phaseOf_10 ?_
  exact hs_ireti C hf h dX0_phaseOf_11
theorem m_X0_phaseOf (i0 : Nat) (gi0 : hs_K i0 = 1) (a1 : Int32) (S : hs_M) {r : Int32} {S' : hs_M} (h : f_X0_phaseOf i0 a1 S = some (r, S')) : hs_met 0 yX0_phaseOf cX0_phaseOf 2 (some .int) 0 (fun q => [.ref (q i0), .int a1]) S (fun q => some (.int r)) S' :=
  hs_mkI (res := (r, S')) (by decide +kernel) (by decide) (fun q => Nat.le_of_ble_eq_true rfl) fun X C hf => (t_X0_phaseOf_0 C hf i0 gi0 a1 S h)
set_option maxRecDepth 100000 in
set_option maxHeartbeats 4000000 in
theorem t_X0_offsetOf_0 {X : hs_T} (C : hs_C X 0 RX0 cX0_offsetOf 1 0) {res : Int32 × hs_M} (hf : hs_FI X cX0_offsetOf res) (p0 : Nat) (gp0 : hs_K p0 = 1) (S : hs_M) (h : f_X0_offsetOf_0 p0 S = some res) : hs_Z X 1 S [(0, .ref (hs_q X p0))] [] 0 := by
  unfold f_X0_offsetOf_0 at h
  refine hs_aload_n C dX0_offsetOf_0 0 rfl rfl ?_
  refine gf_X0_50 C gp0 dX0_offsetOf_1 ?_
  refine hs_aload_n C dX0_offsetOf_4 0 rfl rfl ?_
  refine gf_X0_43 C gp0 dX0_offsetOf_5 ?_
  refine hs_isub C dX0_offsetOf_8 ?_
  refine hs_ldc C ww_9 dX0_offsetOf_9 ?_
  refine hs_iand C dX0_offsetOf_11 ?_
  exact hs_ireti C hf h dX0_offsetOf_12
theorem m_X0_offsetOf (i0 : Nat) (gi0 : hs_K i0 = 1) (S : hs_M) {r : Int32} {S' : hs_M} (h : f_X0_offsetOf i0 S = some (r, S')) : hs_met 0 yX0_offsetOf cX0_offsetOf 1 (some .int) 0 (fun q => [.ref (q i0)]) S (fun q => some (.int r)) S' :=
  hs_mkI (res := (r, S')) (by decide +kernel) (by decide) (fun q => Nat.le_of_ble_eq_true rfl) fun X C hf => (t_X0_offsetOf_0 C hf i0 gi0 S h)
set_option maxRecDepth 100000 in
set_option maxHeartbeats 4000000 in
theorem t_X0_follow_0 {X : hs_T} (C : hs_C X 0 RX0 cX0_follow 3 1) {res : hs_M} (hf : hs_FV X cX0_follow res) (p0 : Nat) (gp0 : hs_K p0 = 0) (p1 : Nat) (gp1 : hs_K p1 = 1) (x2 : Int32) (S : hs_M) (h : f_X0_follow_0 p0 p1 x2 S = some res) : hs_Z X 3 S [(0, .ref (hs_q X p0)), (1, .ref (hs_q X p1)), (2, .int x2)] [] 0 := by
  unfold f_X0_follow_0 at h
  refine hs_aload_n C dX0_follow_0 0 rfl rfl ?_
  refine hs_aload_n C dX0_follow_1 1 rfl rfl ?_
  refine gf_X0_15 C gp1 dX0_follow_2 ?_
  refine pf_X0_9 C gp0 h dX0_follow_5 (fun S_1 h => ?_)
  refine hs_aload_n C dX0_follow_8 0 rfl rfl ?_
  refine hs_aload_n C dX0_follow_9 1 rfl rfl ?_
  refine gf_X0_21 C gp1 dX0_follow_10 ?_
  refine pf_X0_18 C gp0 h dX0_follow_13 (fun S_2 h => ?_)
  refine hs_aload_n C dX0_follow_16 0 rfl rfl ?_
  refine hs_iload_n C dX0_follow_17 2 rfl rfl ?_
  refine pf_X0_29 C gp0 h dX0_follow_18 (fun S_3 h => ?_)
  refine hs_aload_n C dX0_follow_21 0 rfl rfl ?_
  refine hs_aload_n C dX0_follow_22 1 rfl rfl ?_
  refine hs_iload_n C dX0_follow_23 2 rfl rfl ?_
  obtain ⟨r_6, S_4, hc_5, h⟩ := hs_b2_s h
  refine cs_X0_32 C (m_X0_phaseOf p1 gp1 x2 S_3 hc_5) (by decide) (Nat.le_of_ble_eq_true rfl) dX0_follow_24 ?_
  refine pf_X0_26 C gp0 h dX0_follow_27 (fun S_7 h => ?_)
  refine hs_aload_n C dX0_follow_30 0 rfl rfl ?_
  refine hs_aload_n C dX0_follow_31 1 rfl rfl ?_
  obtain ⟨r_10, S_8, hc_9, h⟩ := hs_b2_s h
  refine cs_X0_39 C (m_X0_offsetOf p1 gp1 S_7 hc_9) (by decide) (Nat.le_of_ble_eq_true rfl) dX0_follow_32 ?_
  refine pf_X0_36 C gp0 h dX0_follow_35 (fun S_11 h => ?_)
  exact hs_vret C hf h dX0_follow_38
theorem m_X0_follow (i0 : Nat) (gi0 : hs_K i0 = 0) (i1 : Nat) (gi1 : hs_K i1 = 1) (a2 : Int32) (S : hs_M) {S' : hs_M} (h : f_X0_follow i0 i1 a2 S = some S') : hs_met 0 yX0_follow cX0_follow 3 none 1 (fun q => [.ref (q i0), .ref (q i1), .int a2]) S (fun q => none) S' :=
  hs_mkV (res := S') (by decide +kernel) (by decide) (fun q => Nat.le_of_ble_eq_true rfl) fun X C hf => (t_X0_follow_0 C hf i0 gi0 i1 gi1 a2 S h)
set_option maxRecDepth 100000 in
set_option maxHeartbeats 4000000 in
theorem t_X0_isOf_27 {X : hs_T} (C : hs_C X 0 RX0 cX0_isOf 2 0) {res : Int32 × hs_M} (hf : hs_FB X cX0_isOf res) (y0 : Int32) (S : hs_M) (h : f_X0_isOf_27 y0 S = some res) : hs_Z X 2 S [] [.int y0] 27 := by
  unfold f_X0_isOf_27 at h
  exact hs_iretb C hf h dX0_isOf_27
set_option maxRecDepth 100000 in
set_option maxHeartbeats 4000000 in
theorem t_X0_isOf_26 {X : hs_T} (C : hs_C X 0 RX0 cX0_isOf 2 0) {res : Int32 × hs_M} (hf : hs_FB X cX0_isOf res) (S : hs_M) (h : f_X0_isOf_26  S = some res) : hs_Z X 2 S [] [] 26 := by
  unfold f_X0_isOf_26 at h
  refine hs_iconst (v := 0) C dX0_isOf_26 (by decide) ?_
  exact t_X0_isOf_27 C hf  (0 : Int32) S h
set_option maxRecDepth 100000 in
set_option maxHeartbeats 4000000 in
theorem t_X0_isOf_0 {X : hs_T} (C : hs_C X 0 RX0 cX0_isOf 2 0) {res : Int32 × hs_M} (hf : hs_FB X cX0_isOf res) (p0 : Nat) (gp0 : hs_K p0 = 0) (p1 : Nat) (gp1 : hs_K p1 = 1) (S : hs_M) (h : f_X0_isOf_0 p0 p1 S = some res) : hs_Z X 2 S [(0, .ref (hs_q X p0)), (1, .ref (hs_q X p1))] [] 0 := by
  unfold f_X0_isOf_0 at h
  refine hs_aload_n C dX0_isOf_0 0 rfl rfl ?_
  refine gf_X0_9 C gp0 dX0_isOf_1 ?_
  refine hs_aload_n C dX0_isOf_4 1 rfl rfl ?_
  refine gf_X0_15 C gp1 dX0_isOf_5 ?_
  refine hs_icmp_ne (tgt := 26) C dX0_isOf_8 (by decide) h (fun h => ?_) (fun h => ?_)
  · skip
    refine hs_sub [] rfl ?_
    exact t_X0_isOf_26 C hf   S h
  · skip
    refine hs_aload_n C dX0_isOf_11 0 rfl rfl ?_
    refine gf_X0_18 C gp0 dX0_isOf_12 ?_
    refine hs_aload_n C dX0_isOf_15 1 rfl rfl ?_
    refine gf_X0_21 C gp1 dX0_isOf_16 ?_
    refine hs_icmp_ne (tgt := 26) C dX0_isOf_19 (by decide) h (fun h => ?_) (fun h => ?_)
    · skip
      refine hs_sub [] rfl ?_
      exact t_X0_isOf_26 C hf   S h
    · skip
      refine hs_iconst (v := 1) C dX0_isOf_22 (by decide) ?_
      refine hs_goto (tgt := 27) C dX0_isOf_23 (by decide) ?_
      refine hs_sub [] rfl ?_
      exact t_X0_isOf_27 C hf  (1 : Int32) S h
theorem m_X0_isOf (i0 : Nat) (gi0 : hs_K i0 = 0) (i1 : Nat) (gi1 : hs_K i1 = 1) (S : hs_M) {r : Int32} {S' : hs_M} (h : f_X0_isOf i0 i1 S = some (r, S')) : hs_met 0 yX0_isOf cX0_isOf 2 (some .boolean) 0 (fun q => [.ref (q i0), .ref (q i1)]) S (fun q => some (.int r)) S' :=
  hs_mkB (res := (r, S')) (by decide +kernel) (by decide) (fun q => Nat.le_of_ble_eq_true rfl) fun X C hf => (t_X0_isOf_0 C hf i0 gi0 i1 gi1 S h)
set_option maxRecDepth 100000 in
set_option maxHeartbeats 4000000 in
theorem t_X0_goesAlong_39 {X : hs_T} (C : hs_C X 0 RX0 cX0_goesAlong 2 1) {res : Int32 × hs_M} (hf : hs_FB X cX0_goesAlong res) (y0 : Int32) (S : hs_M) (h : f_X0_goesAlong_39 y0 S = some res) : hs_Z X 2 S [] [.int y0] 39 := by
  unfold f_X0_goesAlong_39 at h
  exact hs_iretb C hf h dX0_goesAlong_39
set_option maxRecDepth 100000 in
set_option maxHeartbeats 4000000 in
theorem t_X0_goesAlong_38 {X : hs_T} (C : hs_C X 0 RX0 cX0_goesAlong 2 1) {res : Int32 × hs_M} (hf : hs_FB X cX0_goesAlong res) (S : hs_M) (h : f_X0_goesAlong_38  S = some res) : hs_Z X 2 S [] [] 38 := by
  unfold f_X0_goesAlong_38 at h
  refine hs_iconst (v := 0) C dX0_goesAlong_38 (by decide) ?_
  exact t_X0_goesAlong_39 C hf  (0 : Int32) S h
set_option maxRecDepth 100000 in
set_option maxHeartbeats 4000000 in
theorem t_X0_goesAlong_0 {X : hs_T} (C : hs_C X 0 RX0 cX0_goesAlong 2 1) {res : Int32 × hs_M} (hf : hs_FB X cX0_goesAlong res) (p0 : Nat) (gp0 : hs_K p0 = 0) (p1 : Nat) (gp1 : hs_K p1 = 1) (S : hs_M) (h : f_X0_goesAlong_0 p0 p1 S = some res) : hs_Z X 2 S [(0, .ref (hs_q X p0)), (1, .ref (hs_q X p1))] [] 0 := by
  unfold f_X0_goesAlong_0 at h
  refine hs_aload_n C dX0_goesAlong_0 0 rfl rfl ?_
  refine hs_aload_n C dX0_goesAlong_1 1 rfl rfl ?_
  obtain ⟨r_3, S_1, hc_2, h⟩ := hs_b2_s h
  refine cs_X0_22 C gp0 (m_X0_isOf p0 gp0 p1 gp1 S hc_2) (by decide) (Nat.le_of_ble_eq_true rfl) dX0_goesAlong_2 ?_
  refine hs_if_eq (tgt := 38) C dX0_goesAlong_5 (by decide) h (fun h => ?_) (fun h => ?_)
  · skip
    refine hs_sub [] rfl ?_
    exact t_X0_goesAlong_38 C hf   S_1 h
  · skip
    refine hs_aload_n C dX0_goesAlong_8 0 rfl rfl ?_
    refine gf_X0_26 C gp0 dX0_goesAlong_9 ?_
    refine hs_aload_n C dX0_goesAlong_12 1 rfl rfl ?_
    refine hs_aload_n C dX0_goesAlong_13 0 rfl rfl ?_
    refine gf_X0_29 C gp0 dX0_goesAlong_14 ?_
    obtain ⟨r_6, S_4, hc_5, h⟩ := hs_b2_s h
    refine cs_X0_32 C (m_X0_phaseOf p1 gp1 (S_1 p0 2) S_1 hc_5) (by decide) (Nat.le_of_ble_eq_true rfl) dX0_goesAlong_17 ?_
    refine hs_icmp_ne (tgt := 38) C dX0_goesAlong_20 (by decide) h (fun h => ?_) (fun h => ?_)
    · skip
      refine hs_sub [] rfl ?_
      exact t_X0_goesAlong_38 C hf   S_4 h
    · skip
      refine hs_aload_n C dX0_goesAlong_23 0 rfl rfl ?_
      refine gf_X0_36 C gp0 dX0_goesAlong_24 ?_
      refine hs_aload_n C dX0_goesAlong_27 1 rfl rfl ?_
      obtain ⟨r_9, S_7, hc_8, h⟩ := hs_b2_s h
      refine cs_X0_39 C (m_X0_offsetOf p1 gp1 S_4 hc_8) (by decide) (Nat.le_of_ble_eq_true rfl) dX0_goesAlong_28 ?_
      refine hs_icmp_ne (tgt := 38) C dX0_goesAlong_31 (by decide) h (fun h => ?_) (fun h => ?_)
      · skip
        refine hs_sub [] rfl ?_
        exact t_X0_goesAlong_38 C hf   S_7 h
      · skip
        refine hs_iconst (v := 1) C dX0_goesAlong_34 (by decide) ?_
        refine hs_goto (tgt := 39) C dX0_goesAlong_35 (by decide) ?_
        refine hs_sub [] rfl ?_
        exact t_X0_goesAlong_39 C hf  (1 : Int32) S_7 h
theorem m_X0_goesAlong (i0 : Nat) (gi0 : hs_K i0 = 0) (i1 : Nat) (gi1 : hs_K i1 = 1) (S : hs_M) {r : Int32} {S' : hs_M} (h : f_X0_goesAlong i0 i1 S = some (r, S')) : hs_met 0 yX0_goesAlong cX0_goesAlong 2 (some .boolean) 1 (fun q => [.ref (q i0), .ref (q i1)]) S (fun q => some (.int r)) S' :=
  hs_mkB (res := (r, S')) (by decide +kernel) (by decide) (fun q => Nat.le_of_ble_eq_true rfl) fun X C hf => (t_X0_goesAlong_0 C hf i0 gi0 i1 gi1 S h)
set_option maxRecDepth 100000 in
set_option maxHeartbeats 4000000 in
theorem t_X1_markBit_14 {X : hs_T} (C : hs_C X 0 RX1 cX1_markBit 1 0) {res : Int32 × hs_M} (hf : hs_FI X cX1_markBit res) (y0 : Int32) (S : hs_M) (h : f_X1_markBit_14 y0 S = some res) : hs_Z X 1 S [] [.int y0] 14 := by
  unfold f_X1_markBit_14 at h
  exact hs_ireti C hf h dX1_markBit_14
set_option maxRecDepth 100000 in
set_option maxHeartbeats 4000000 in
theorem t_X1_markBit_0 {X : hs_T} (C : hs_C X 0 RX1 cX1_markBit 1 0) {res : Int32 × hs_M} (hf : hs_FI X cX1_markBit res) (p0 : Nat) (gp0 : hs_K p0 = 1) (S : hs_M) (h : f_X1_markBit_0 p0 S = some res) : hs_Z X 1 S [(0, .ref (hs_q X p0))] [] 0 := by
  unfold f_X1_markBit_0 at h
  refine hs_aload_n C dX1_markBit_0 0 rfl rfl ?_
  refine gf_X1_31 C gp0 dX1_markBit_1 ?_
  refine hs_if_eq (tgt := 13) C dX1_markBit_4 (by decide) h (fun h => ?_) (fun h => ?_)
  · skip
    refine hs_iconst (v := 0) C dX1_markBit_13 (by decide) ?_
    refine hs_sub [] rfl ?_
    exact t_X1_markBit_14 C hf  (0 : Int32) S h
  · skip
    refine hs_sipush (v := 128) C dX1_markBit_7 (by decide) ?_
    refine hs_goto (tgt := 14) C dX1_markBit_10 (by decide) ?_
    refine hs_sub [] rfl ?_
    exact t_X1_markBit_14 C hf  (128 : Int32) S h
theorem m_X1_markBit (i0 : Nat) (gi0 : hs_K i0 = 1) (S : hs_M) {r : Int32} {S' : hs_M} (h : f_X1_markBit i0 S = some (r, S')) : hs_met 0 yX1_markBit cX1_markBit 1 (some .int) 0 (fun q => [.ref (q i0)]) S (fun q => some (.int r)) S' :=
  hs_mkI (res := (r, S')) (by decide +kernel) (by decide) (fun q => Nat.le_of_ble_eq_true rfl) fun X C hf => (t_X1_markBit_0 C hf i0 gi0 S h)
set_option maxRecDepth 100000 in
set_option maxHeartbeats 4000000 in
theorem t_X1_part_0 {X : hs_T} (C : hs_C X 0 RX1 cX1_part 2 1) {res : Int32 × hs_M} (hf : hs_FI X cX1_part res) (p0 : Nat) (gp0 : hs_K p0 = 1) (x1 : Int32) (S : hs_M) (h : f_X1_part_0 p0 x1 S = some res) : hs_Z X 2 S [(0, .ref (hs_q X p0)), (1, .int x1)] [] 0 := by
  unfold f_X1_part_0 at h
  refine hs_iload_n C dX1_part_0 1 rfl rfl ?_
  rcases hs_if_s h with ⟨c_1, h⟩ | ⟨c_1, h⟩
  · skip
    refine hs_tableIn (off := 55) (tgt := 56) C dX1_part_1 (by rw [c_1]; decide) (by rw [c_1]; decide) (by rw [c_1]; rfl) (by decide) ?_
    refine hs_aload_n C dX1_part_56 0 rfl rfl ?_
    refine gf_X1_9 C gp0 dX1_part_57 ?_
    refine hs_bipush (v := 8) C dX1_part_60 (by decide) ?_
    refine hs_iushr C dX1_part_62 ?_
    exact hs_ireti C hf h dX1_part_63
  · skip
    rcases hs_if_s h with ⟨c_2, h⟩ | ⟨c_2, h⟩
    · skip
      refine hs_tableIn (off := 63) (tgt := 64) C dX1_part_1 (by rw [c_2]; decide) (by rw [c_2]; decide) (by rw [c_2]; rfl) (by decide) ?_
      refine hs_aload_n C dX1_part_64 0 rfl rfl ?_
      refine gf_X1_9 C gp0 dX1_part_65 ?_
      refine hs_sipush (v := 255) C dX1_part_68 (by decide) ?_
      refine hs_iand C dX1_part_71 ?_
      exact hs_ireti C hf h dX1_part_72
    · skip
      rcases hs_if_s h with ⟨c_3, h⟩ | ⟨c_3, h⟩
      · skip
        refine hs_tableIn (off := 72) (tgt := 73) C dX1_part_1 (by rw [c_3]; decide) (by rw [c_3]; decide) (by rw [c_3]; rfl) (by decide) ?_
        refine hs_aload_n C dX1_part_73 0 rfl rfl ?_
        refine gf_X1_15 C gp0 dX1_part_74 ?_
        refine hs_aload_n C dX1_part_77 0 rfl rfl ?_
        obtain ⟨r_6, S_4, hc_5, h⟩ := hs_b2_s h
        refine cs_X1_18 C gp0 (m_X1_markBit p0 gp0 S hc_5) (by decide) (Nat.le_of_ble_eq_true rfl) dX1_part_78 ?_
        refine hs_iadd C dX1_part_81 ?_
        exact hs_ireti C hf h dX1_part_82
      · skip
        rcases hs_if_s h with ⟨c_7, h⟩ | ⟨c_7, h⟩
        · skip
          refine hs_tableIn (off := 82) (tgt := 83) C dX1_part_1 (by rw [c_7]; decide) (by rw [c_7]; decide) (by rw [c_7]; rfl) (by decide) ?_
          refine hs_aload_n C dX1_part_83 0 rfl rfl ?_
          refine gf_X1_22 C gp0 dX1_part_84 ?_
          refine hs_bipush (v := 8) C dX1_part_87 (by decide) ?_
          refine hs_iushr C dX1_part_89 ?_
          exact hs_ireti C hf h dX1_part_90
        · skip
          rcases hs_if_s h with ⟨c_8, h⟩ | ⟨c_8, h⟩
          · skip
            refine hs_tableIn (off := 90) (tgt := 91) C dX1_part_1 (by rw [c_8]; decide) (by rw [c_8]; decide) (by rw [c_8]; rfl) (by decide) ?_
            refine hs_aload_n C dX1_part_91 0 rfl rfl ?_
            refine gf_X1_22 C gp0 dX1_part_92 ?_
            refine hs_sipush (v := 255) C dX1_part_95 (by decide) ?_
            refine hs_iand C dX1_part_98 ?_
            exact hs_ireti C hf h dX1_part_99
          · skip
            rcases hs_if_s h with ⟨c_9, h⟩ | ⟨c_9, h⟩
            · skip
              refine hs_tableIn (off := 99) (tgt := 100) C dX1_part_1 (by rw [c_9]; decide) (by rw [c_9]; decide) (by rw [c_9]; rfl) (by decide) ?_
              refine hs_aload_n C dX1_part_100 0 rfl rfl ?_
              refine gf_X1_25 C gp0 dX1_part_101 ?_
              refine hs_bipush (v := 24) C dX1_part_104 (by decide) ?_
              refine hs_iushr C dX1_part_106 ?_
              exact hs_ireti C hf h dX1_part_107
            · skip
              rcases hs_if_s h with ⟨c_10, h⟩ | ⟨c_10, h⟩
              · skip
                refine hs_tableIn (off := 107) (tgt := 108) C dX1_part_1 (by rw [c_10]; decide) (by rw [c_10]; decide) (by rw [c_10]; rfl) (by decide) ?_
                refine hs_aload_n C dX1_part_108 0 rfl rfl ?_
                refine gf_X1_25 C gp0 dX1_part_109 ?_
                refine hs_bipush (v := 16) C dX1_part_112 (by decide) ?_
                refine hs_iushr C dX1_part_114 ?_
                refine hs_sipush (v := 255) C dX1_part_115 (by decide) ?_
                refine hs_iand C dX1_part_118 ?_
                exact hs_ireti C hf h dX1_part_119
              · skip
                rcases hs_if_s h with ⟨c_11, h⟩ | ⟨c_11, h⟩
                · skip
                  refine hs_tableIn (off := 119) (tgt := 120) C dX1_part_1 (by rw [c_11]; decide) (by rw [c_11]; decide) (by rw [c_11]; rfl) (by decide) ?_
                  refine hs_aload_n C dX1_part_120 0 rfl rfl ?_
                  refine gf_X1_25 C gp0 dX1_part_121 ?_
                  refine hs_bipush (v := 8) C dX1_part_124 (by decide) ?_
                  refine hs_iushr C dX1_part_126 ?_
                  refine hs_sipush (v := 255) C dX1_part_127 (by decide) ?_
                  refine hs_iand C dX1_part_130 ?_
                  exact hs_ireti C hf h dX1_part_131
                · skip
                  rcases hs_if_s h with ⟨c_12, h⟩ | ⟨c_12, h⟩
                  · skip
                    refine hs_tableIn (off := 131) (tgt := 132) C dX1_part_1 (by rw [c_12]; decide) (by rw [c_12]; decide) (by rw [c_12]; rfl) (by decide) ?_
                    refine hs_aload_n C dX1_part_132 0 rfl rfl ?_
                    refine gf_X1_25 C gp0 dX1_part_133 ?_
                    refine hs_sipush (v := 255) C dX1_part_136 (by decide) ?_
                    refine hs_iand C dX1_part_139 ?_
                    exact hs_ireti C hf h dX1_part_140
                  · skip
                    rcases hs_if_s h with ⟨c_13, h⟩ | ⟨c_13, h⟩
                    · skip
                      refine hs_tableIn (off := 140) (tgt := 141) C dX1_part_1 (by rw [c_13]; decide) (by rw [c_13]; decide) (by rw [c_13]; rfl) (by decide) ?_
                      refine hs_aload_n C dX1_part_141 0 rfl rfl ?_
                      refine gf_X1_28 C gp0 dX1_part_142 ?_
                      refine hs_bipush (v := 8) C dX1_part_145 (by decide) ?_
                      refine hs_iushr C dX1_part_147 ?_
                      exact hs_ireti C hf h dX1_part_148
                    · skip
                      refine hs_tableOut (tgt := 149) C dX1_part_1 (by have e0 := lv_neT (a := 0) c_1 (by decide); have e1 := lv_neT (a := 1) c_2 (by decide); have e2 := lv_neT (a := 2) c_3 (by decide); have e3 := lv_neT (a := 3) c_7 (by decide); have e4 := lv_neT (a := 4) c_8 (by decide); have e5 := lv_neT (a := 5) c_9 (by decide); have e6 := lv_neT (a := 6) c_10 (by decide); have e7 := lv_neT (a := 7) c_11 (by decide); have e8 := lv_neT (a := 8) c_12 (by decide); have e9 := lv_neT (a := 9) c_13 (by decide); omega) (by decide) ?_
                      refine hs_aload_n C dX1_part_149 0 rfl rfl ?_
                      refine gf_X1_28 C gp0 dX1_part_150 ?_
                      refine hs_sipush (v := 255) C dX1_part_153 (by decide) ?_
                      refine hs_iand C dX1_part_156 ?_
                      exact hs_ireti C hf h dX1_part_157
theorem m_X1_part (i0 : Nat) (gi0 : hs_K i0 = 1) (a1 : Int32) (S : hs_M) {r : Int32} {S' : hs_M} (h : f_X1_part i0 a1 S = some (r, S')) : hs_met 0 yX1_part cX1_part 2 (some .int) 1 (fun q => [.ref (q i0), .int a1]) S (fun q => some (.int r)) S' :=
  hs_mkI (res := (r, S')) (by decide +kernel) (by decide) (fun q => Nat.le_of_ble_eq_true rfl) fun X C hf => (t_X1_part_0 C hf i0 gi0 a1 S h)
set_option maxRecDepth 100000 in
set_option maxHeartbeats 4000000 in
theorem t_X1_sumBehind_43 {X : hs_T} (C : hs_C X 0 RX1 cX1_sumBehind 6 0) {res : Int32 × hs_M} (hf : hs_FI X cX1_sumBehind res) (K5 : Int32 → Int32 → Int32 → Int32 → hs_M → Option (Int32 × hs_M)) (hK5 : ∀ (x1 : Int32) (x2 : Int32) (x3 : Int32) (x4 : Int32) (S : hs_M), K5 x1 x2 x3 x4 S = some res → hs_Z X 6 S [(1, .int x1), (2, .int x2), (3, .int x3), (4, .int x4)] [] 5) (x1 : Int32) (x2 : Int32) (x3 : Int32) (x4 : Int32) (S : hs_M) (h : f_X1_sumBehind_43 K5 x1 x2 x3 x4 S = some res) : hs_Z X 6 S [(1, .int x1), (2, .int x2), (3, .int x3), (4, .int x4)] [] 43 := by
  unfold f_X1_sumBehind_43 at h
  refine hs_iinc' (1 : Int32) C dX1_sumBehind_43 3 rfl (by decide) (by decide) h (fun x_1 h => ?_)
  show hs_Z X _ _ [(4, .int x_1), (1, .int x1), (2, .int x2), (3, .int x3)] _ _
  refine hs_goto (tgt := 5) C dX1_sumBehind_46 (by decide) ?_
  refine hs_sub [1, 2, 3, 0] rfl ?_
  exact hK5 x1 x2 x3 x_1 S h
set_option maxRecDepth 100000 in
set_option maxHeartbeats 4000000 in
theorem t_X1_sumBehind_28 {X : hs_T} (C : hs_C X 0 RX1 cX1_sumBehind 6 0) {res : Int32 × hs_M} (hf : hs_FI X cX1_sumBehind res) (K5 : Int32 → Int32 → Int32 → Int32 → hs_M → Option (Int32 × hs_M)) (hK5 : ∀ (x1 : Int32) (x2 : Int32) (x3 : Int32) (x4 : Int32) (S : hs_M), K5 x1 x2 x3 x4 S = some res → hs_Z X 6 S [(1, .int x1), (2, .int x2), (3, .int x3), (4, .int x4)] [] 5) (x1 : Int32) (x2 : Int32) (x3 : Int32) (x4 : Int32) (y0 : Int32) (S : hs_M) (h : f_X1_sumBehind_28 K5 x1 x2 x3 x4 y0 S = some res) : hs_Z X 6 S [(1, .int x1), (2, .int x2), (3, .int x3), (4, .int x4)] [.int y0] 28 := by
  unfold f_X1_sumBehind_28 at h
  refine hs_istore (lv' := [(5, .int y0), (1, .int x1), (2, .int x2), (3, .int x3), (4, .int x4)]) C dX1_sumBehind_28 (by decide) rfl ?_
  refine hs_iload_n C dX1_sumBehind_30 3 rfl rfl ?_
  refine hs_iconst (v := 1) C dX1_sumBehind_31 (by decide) ?_
  refine hs_iushr C dX1_sumBehind_32 ?_
  refine hs_top h (fun x_1 h => ?_)
  refine hs_istore_n (lv' := [(3, .int x_1), (5, .int y0), (1, .int x1), (2, .int x2), (4, .int x4)]) C dX1_sumBehind_33 rfl (by decide) rfl ?_
  refine hs_iload C dX1_sumBehind_34 1 rfl ?_
  refine hs_if_eq (tgt := 43) C dX1_sumBehind_36 (by decide) h (fun h => ?_) (fun h => ?_)
  · skip
    refine hs_sub [2, 3, 0, 4] rfl ?_
    exact t_X1_sumBehind_43 C hf K5 hK5 x1 x2 x_1 x4 S h
  · skip
    refine hs_iload_n C dX1_sumBehind_39 0 rfl rfl ?_
    refine hs_iload_n C dX1_sumBehind_40 2 rfl rfl ?_
    refine hs_ixor C dX1_sumBehind_41 ?_
    refine hs_top h (fun x_2 h => ?_)
    refine hs_istore_n (lv' := [(3, .int x_2), (5, .int y0), (1, .int x1), (2, .int x2), (4, .int x4)]) C dX1_sumBehind_42 rfl (by decide) rfl ?_
    refine hs_sub [2, 3, 0, 4] rfl ?_
    exact t_X1_sumBehind_43 C hf K5 hK5 x1 x2 x_2 x4 S h
set_option maxRecDepth 100000 in
set_option maxHeartbeats 4000000 in
theorem t_X1_sumBehind_5 {X : hs_T} (C : hs_C X 0 RX1 cX1_sumBehind 6 0) {res : Int32 × hs_M} (hf : hs_FI X cX1_sumBehind res) (K5 : Int32 → Int32 → Int32 → Int32 → hs_M → Option (Int32 × hs_M)) (hK5 : ∀ (x1 : Int32) (x2 : Int32) (x3 : Int32) (x4 : Int32) (S : hs_M), K5 x1 x2 x3 x4 S = some res → hs_Z X 6 S [(1, .int x1), (2, .int x2), (3, .int x3), (4, .int x4)] [] 5) (x1 : Int32) (x2 : Int32) (x3 : Int32) (x4 : Int32) (S : hs_M) (h : fb_X1_sumBehind_5 K5 x1 x2 x3 x4 S = some res) : hs_Z X 6 S [(1, .int x1), (2, .int x2), (3, .int x3), (4, .int x4)] [] 5 := by
  unfold fb_X1_sumBehind_5 at h
  refine hs_iload C dX1_sumBehind_5 3 rfl ?_
  refine hs_bipush (v := 8) C dX1_sumBehind_7 (by decide) ?_
  refine hs_icmp_ge (tgt := 49) C dX1_sumBehind_9 (by decide) h (fun h => ?_) (fun h => ?_)
  · skip
    refine hs_iload_n C dX1_sumBehind_49 2 rfl rfl ?_
    exact hs_ireti C hf h dX1_sumBehind_50
  · skip
    refine hs_iload_n C dX1_sumBehind_12 2 rfl rfl ?_
    refine hs_iload_n C dX1_sumBehind_13 1 rfl rfl ?_
    refine hs_iload C dX1_sumBehind_14 3 rfl ?_
    refine hs_iushr C dX1_sumBehind_16 ?_
    refine hs_ixor C dX1_sumBehind_17 ?_
    refine hs_iconst (v := 1) C dX1_sumBehind_18 (by decide) ?_
    refine hs_iand C dX1_sumBehind_19 ?_
    refine hs_if_eq (tgt := 27) C dX1_sumBehind_20 (by decide) h (fun h => ?_) (fun h => ?_)
    · skip
      refine hs_iconst (v := 0) C dX1_sumBehind_27 (by decide) ?_
      exact t_X1_sumBehind_28 C hf K5 hK5 x1 x2 x3 x4 (0 : Int32) S h
    · skip
      refine hs_iconst (v := 1) C dX1_sumBehind_23 (by decide) ?_
      refine hs_goto (tgt := 28) C dX1_sumBehind_24 (by decide) ?_
      exact t_X1_sumBehind_28 C hf K5 hK5 x1 x2 x3 x4 (1 : Int32) S h
theorem t_X1_sumBehind_5l {X : hs_T} (C : hs_C X 0 RX1 cX1_sumBehind 6 0) {res : Int32 × hs_M} (hf : hs_FI X cX1_sumBehind res)  : ∀ (n : Nat) (x1 : Int32) (x2 : Int32) (x3 : Int32) (x4 : Int32) (S : hs_M), f_X1_sumBehind_5  n x1 x2 x3 x4 S = some res → hs_Z X 6 S [(1, .int x1), (2, .int x2), (3, .int x3), (4, .int x4)] [] 5 := by
  intro n
  induction n with
  | zero =>
    intro x1 x2 x3 x4 S h
    cases h
  | succ n ih =>
    intro x1 x2 x3 x4 S h
    exact t_X1_sumBehind_5 C hf  (f_X1_sumBehind_5  n) ih x1 x2 x3 x4 S h
set_option maxRecDepth 100000 in
set_option maxHeartbeats 4000000 in
theorem t_X1_sumBehind_0 {X : hs_T} (C : hs_C X 0 RX1 cX1_sumBehind 6 0) {res : Int32 × hs_M} (hf : hs_FI X cX1_sumBehind res) (x0 : Int32) (x1 : Int32) (x2 : Int32) (S : hs_M) (h : f_X1_sumBehind_0 x0 x1 x2 S = some res) : hs_Z X 6 S [(0, .int x0), (1, .int x1), (2, .int x2)] [] 0 := by
  unfold f_X1_sumBehind_0 at h
  refine hs_iload_n C dX1_sumBehind_0 0 rfl rfl ?_
  refine hs_istore_n (lv' := [(3, .int x0), (0, .int x0), (1, .int x1), (2, .int x2)]) C dX1_sumBehind_1 rfl (by decide) rfl ?_
  refine hs_iconst (v := 0) C dX1_sumBehind_2 (by decide) ?_
  refine hs_istore (lv' := [(4, .int (0 : Int32)), (3, .int x0), (0, .int x0), (1, .int x1), (2, .int x2)]) C dX1_sumBehind_3 (by decide) rfl ?_
  refine hs_sub [3, 4, 1, 0] rfl ?_
  exact t_X1_sumBehind_5l C hf  hs_fuel x1 x2 x0 (0 : Int32) S h
theorem m_X1_sumBehind (a0 : Int32) (a1 : Int32) (a2 : Int32) (S : hs_M) {r : Int32} {S' : hs_M} (h : f_X1_sumBehind a0 a1 a2 S = some (r, S')) : hs_met 0 yX1_sumBehind cX1_sumBehind 6 (some .int) 0 (fun q => [.int a0, .int a1, .int a2]) S (fun q => some (.int r)) S' :=
  hs_mkI (res := (r, S')) (by decide +kernel) (by decide) (fun q => Nat.le_of_ble_eq_true rfl) fun X C hf => (t_X1_sumBehind_0 C hf a0 a1 a2 S h)
set_option maxRecDepth 100000 in
set_option maxHeartbeats 4000000 in
theorem t_X1_sumFor_70 {X : hs_T} (C : hs_C X 0 RX1 cX1_sumFor 6 2) {res : Int32 × hs_M} (hf : hs_FI X cX1_sumFor res) (x3 : Int32) (S : hs_M) (h : f_X1_sumFor_70 x3 S = some res) : hs_Z X 6 S [(3, .int x3)] [] 70 := by
  unfold f_X1_sumFor_70 at h
  refine hs_iload_n C dX1_sumFor_70 0 rfl rfl ?_
  exact hs_ireti C hf h dX1_sumFor_71
set_option maxRecDepth 100000 in
set_option maxHeartbeats 4000000 in
theorem t_X1_sumFor_16 {X : hs_T} (C : hs_C X 0 RX1 cX1_sumFor 6 2) {res : Int32 × hs_M} (hf : hs_FI X cX1_sumFor res) (K16 : Nat → Int32 → Int32 → Int32 → Int32 → Int32 → hs_M → Option (Int32 × hs_M)) (hK16 : ∀ (p0 : Nat) (_ : hs_K p0 = 1) (x1 : Int32) (x2 : Int32) (x3 : Int32) (x4 : Int32) (x5 : Int32) (S : hs_M), K16 p0 x1 x2 x3 x4 x5 S = some res → hs_Z X 6 S [(0, .ref (hs_q X p0)), (1, .int x1), (2, .int x2), (3, .int x3), (4, .int x4), (5, .int x5)] [] 16) (p0 : Nat) (gp0 : hs_K p0 = 1) (x1 : Int32) (x2 : Int32) (x3 : Int32) (x4 : Int32) (x5 : Int32) (S : hs_M) (h : fb_X1_sumFor_16 K16 p0 x1 x2 x3 x4 x5 S = some res) : hs_Z X 6 S [(0, .ref (hs_q X p0)), (1, .int x1), (2, .int x2), (3, .int x3), (4, .int x4), (5, .int x5)] [] 16 := by
  unfold fb_X1_sumFor_16 at h
  refine hs_iload C dX1_sumFor_16 5 rfl ?_
  refine hs_bipush (v := 11) C dX1_sumFor_18 (by decide) ?_
  refine hs_icmp_ge (tgt := 42) C dX1_sumFor_20 (by decide) h (fun h => ?_) (fun h => ?_)
  · skip
    refine hs_iload_n C dX1_sumFor_42 1 rfl rfl ?_
    refine hs_iconst (v := 4) C dX1_sumFor_43 (by decide) ?_
    refine hs_icmp_ne (tgt := 70) C dX1_sumFor_44 (by decide) h (fun h => ?_) (fun h => ?_)
    · skip
      refine hs_sub [3] rfl ?_
      exact t_X1_sumFor_70 C hf  x3 S h
    · skip
      refine hs_iload_n C dX1_sumFor_47 3 rfl rfl ?_
      refine hs_iload C dX1_sumFor_48 4 rfl ?_
      refine hs_iload_n C dX1_sumFor_50 2 rfl rfl ?_
      refine hs_bipush (v := 8) C dX1_sumFor_51 (by decide) ?_
      refine hs_iushr C dX1_sumFor_53 ?_
      obtain ⟨r_3, S_1, hc_2, h⟩ := hs_b2_s h
      refine cs_X1_46 C (m_X1_sumBehind x3 x4 (hs_ushr x2 (8 : Int32)) S hc_2) (by decide) (Nat.le_of_ble_eq_true rfl) dX1_sumFor_54 ?_
      refine hs_istore_n (lv' := [(3, .int r_3), (0, .ref (hs_q X p0)), (1, .int x1), (2, .int x2), (4, .int x4), (5, .int x5)]) C dX1_sumFor_57 rfl (by decide) rfl ?_
      refine hs_iload_n C dX1_sumFor_58 0 rfl rfl ?_
      refine hs_iload C dX1_sumFor_59 4 rfl ?_
      refine hs_iload_n C dX1_sumFor_61 3 rfl rfl ?_
      refine hs_sipush (v := 255) C dX1_sumFor_62 (by decide) ?_
      refine hs_iand C dX1_sumFor_65 ?_
      obtain ⟨r_6, S_4, hc_5, h⟩ := hs_b2_s h
      refine cs_X1_46 C (m_X1_sumBehind r_3 x4 (x2 &&& (255 : Int32)) S_1 hc_5) (by decide) (Nat.le_of_ble_eq_true rfl) dX1_sumFor_66 ?_
      refine hs_istore_n (lv' := [(3, .int r_6), (0, .ref (hs_q X p0)), (1, .int x1), (2, .int x2), (4, .int x4), (5, .int x5)]) C dX1_sumFor_69 rfl (by decide) rfl ?_
      refine hs_sub [0] rfl ?_
      exact t_X1_sumFor_70 C hf  r_6 S_4 h
  · skip
    refine hs_iload_n C dX1_sumFor_23 3 rfl rfl ?_
    refine hs_iload C dX1_sumFor_24 4 rfl ?_
    refine hs_aload_n C dX1_sumFor_26 0 rfl rfl ?_
    refine hs_iload C dX1_sumFor_27 5 rfl ?_
    obtain ⟨r_9, S_7, hc_8, h⟩ := hs_b2_s h
    refine cs_X1_42 C gp0 (m_X1_part p0 gp0 x5 S hc_8) (by decide) (Nat.le_of_ble_eq_true rfl) dX1_sumFor_29 ?_
    obtain ⟨r_12, S_10, hc_11, h⟩ := hs_b2_s h
    refine cs_X1_46 C (m_X1_sumBehind x3 x4 r_9 S_7 hc_11) (by decide) (Nat.le_of_ble_eq_true rfl) dX1_sumFor_32 ?_
    refine hs_istore_n (lv' := [(3, .int r_12), (0, .ref (hs_q X p0)), (1, .int x1), (2, .int x2), (4, .int x4), (5, .int x5)]) C dX1_sumFor_35 rfl (by decide) rfl ?_
    refine hs_iinc' (1 : Int32) C dX1_sumFor_36 5 rfl (by decide) (by decide) h (fun x_13 h => ?_)
    show hs_Z X _ _ [(5, .int x_13), (3, .int r_12), (0, .ref (hs_q X p0)), (1, .int x1), (2, .int x2), (4, .int x4)] _ _
    refine hs_goto (tgt := 16) C dX1_sumFor_39 (by decide) ?_
    refine hs_sub [2, 3, 4, 1, 5, 0] rfl ?_
    exact hK16 p0 gp0 x1 x2 r_12 x4 x_13 S_10 h
theorem t_X1_sumFor_16l {X : hs_T} (C : hs_C X 0 RX1 cX1_sumFor 6 2) {res : Int32 × hs_M} (hf : hs_FI X cX1_sumFor res)  : ∀ (n : Nat) (p0 : Nat) (gp0 : hs_K p0 = 1) (x1 : Int32) (x2 : Int32) (x3 : Int32) (x4 : Int32) (x5 : Int32) (S : hs_M), f_X1_sumFor_16  n p0 x1 x2 x3 x4 x5 S = some res → hs_Z X 6 S [(0, .ref (hs_q X p0)), (1, .int x1), (2, .int x2), (3, .int x3), (4, .int x4), (5, .int x5)] [] 16 := by
  intro n
  induction n with
  | zero =>
    intro p0 gp0 x1 x2 x3 x4 x5 S h
    cases h
  | succ n ih =>
    intro p0 gp0 x1 x2 x3 x4 x5 S h
    exact t_X1_sumFor_16 C hf  (f_X1_sumFor_16  n) ih p0 gp0 x1 x2 x3 x4 x5 S h
set_option maxRecDepth 100000 in
set_option maxHeartbeats 4000000 in
theorem t_X1_sumFor_0 {X : hs_T} (C : hs_C X 0 RX1 cX1_sumFor 6 2) {res : Int32 × hs_M} (hf : hs_FI X cX1_sumFor res) (p0 : Nat) (gp0 : hs_K p0 = 1) (x1 : Int32) (x2 : Int32) (S : hs_M) (h : f_X1_sumFor_0 p0 x1 x2 S = some res) : hs_Z X 6 S [(0, .ref (hs_q X p0)), (1, .int x1), (2, .int x2)] [] 0 := by
  unfold f_X1_sumFor_0 at h
  refine hs_gets (j := 1) (nm := "SUM_AT_FIRST") C (by decide) rfl (by decide +kernel) dX1_sumFor_0 ?_
  refine hs_iload_n C dX1_sumFor_3 1 rfl rfl ?_
  refine hs_sld C (by decide) h dX1_sumFor_4 (fun h => ?_)
  refine hs_top h (fun x_1 h => ?_)
  refine hs_istore_n (lv' := [(3, .int x_1), (0, .ref (hs_q X p0)), (1, .int x1), (2, .int x2)]) C dX1_sumFor_5 rfl (by decide) rfl ?_
  refine hs_gets (j := 2) (nm := "SUM_CHANGE") C (by decide) rfl (by decide +kernel) dX1_sumFor_6 ?_
  refine hs_iload_n C dX1_sumFor_9 2 rfl rfl ?_
  refine hs_sld C (by decide) h dX1_sumFor_10 (fun h => ?_)
  refine hs_top h (fun x_2 h => ?_)
  refine hs_istore (lv' := [(4, .int x_2), (3, .int x_1), (0, .ref (hs_q X p0)), (1, .int x1), (2, .int x2)]) C dX1_sumFor_11 (by decide) rfl ?_
  refine hs_iconst (v := 0) C dX1_sumFor_13 (by decide) ?_
  refine hs_istore (lv' := [(5, .int (0 : Int32)), (4, .int x_2), (3, .int x_1), (0, .ref (hs_q X p0)), (1, .int x1), (2, .int x2)]) C dX1_sumFor_14 (by decide) rfl ?_
  refine hs_sub [3, 4, 5, 2, 1, 0] rfl ?_
  exact t_X1_sumFor_16l C hf  hs_fuel p0 gp0 x1 x2 x_1 x_2 (0 : Int32) S h
theorem m_X1_sumFor (i0 : Nat) (gi0 : hs_K i0 = 1) (a1 : Int32) (a2 : Int32) (S : hs_M) {r : Int32} {S' : hs_M} (h : f_X1_sumFor i0 a1 a2 S = some (r, S')) : hs_met 0 yX1_sumFor cX1_sumFor 6 (some .int) 2 (fun q => [.ref (q i0), .int a1, .int a2]) S (fun q => some (.int r)) S' :=
  hs_mkI (res := (r, S')) (by decide +kernel) (by decide) (fun q => Nat.le_of_ble_eq_true rfl) fun X C hf => (t_X1_sumFor_0 C hf i0 gi0 a1 a2 S h)
