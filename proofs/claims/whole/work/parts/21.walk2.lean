set_option maxRecDepth 100000 in
set_option maxHeartbeats 4000000 in
theorem t_X2_addRowBehind_0 {X : hs_T} (C : hs_C X 0 RX2 cX2_addRowBehind 1 0) {res : Int32 × hs_M} (hf : hs_FB X cX2_addRowBehind res) (S : hs_M) (h : f_X2_addRowBehind_0  S = some res) : hs_Z X 1 S [(0, .ref (hs_q X 4))] [] 0 := by
  unfold f_X2_addRowBehind_0 at h
  refine hs_aload_n C dX2_addRowBehind_0 0 rfl rfl ?_
  refine gf_X2_18 C dX2_addRowBehind_1 ?_
  refine hs_bipush (v := 8) C dX2_addRowBehind_4 (by decide) ?_
  refine hs_icmp_ne (tgt := 11) C dX2_addRowBehind_6 (by decide) h (fun h => ?_) (fun h => ?_)
  · skip
    refine hs_aload_n C dX2_addRowBehind_11 0 rfl rfl ?_
    refine hs_dup C dX2_addRowBehind_12 rfl ?_
    refine gf_X2_18 C dX2_addRowBehind_13 ?_
    refine hs_iconst (v := 1) C dX2_addRowBehind_16 (by decide) ?_
    refine hs_iadd C dX2_addRowBehind_17 ?_
    refine pf_X2_18 C h dX2_addRowBehind_18 (fun S_1 h => ?_)
    refine hs_iconst (v := 1) C dX2_addRowBehind_21 (by decide) ?_
    exact hs_iretb C hf h dX2_addRowBehind_22
  · skip
    refine hs_iconst (v := 0) C dX2_addRowBehind_9 (by decide) ?_
    exact hs_iretb C hf h dX2_addRowBehind_10
theorem m_X2_addRowBehind  (S : hs_M) {r : Int32} {S' : hs_M} (h : f_X2_addRowBehind  S = some (r, S')) : hs_met 0 yX2_addRowBehind cX2_addRowBehind 1 (some .boolean) 0 (fun q => [.ref (q 4)]) S (fun q => some (.int r)) S' :=
  hs_mkB (res := (r, S')) (by decide +kernel) (by decide) (fun q => Nat.le_of_ble_eq_true rfl) fun X C hf => (t_X2_addRowBehind_0 C hf  S h)
set_option maxRecDepth 100000 in
set_option maxHeartbeats 4000000 in
theorem t_X2_rowBehind_0 {X : hs_T} (C : hs_C X 0 RX2 cX2_rowBehind 1 0) {res : Nat × hs_M} (hf : hs_FR X cX2_rowBehind res) (S : hs_M) (h : f_X2_rowBehind_0  S = some res) : hs_Z X 1 S [(0, .ref (hs_q X 4))] [] 0 := by
  unfold f_X2_rowBehind_0 at h
  refine hs_aload_n C dX2_rowBehind_0 0 rfl rfl ?_
  refine gf_X2_11 C dX2_rowBehind_1 ?_
  refine hs_aload_n C dX2_rowBehind_4 0 rfl rfl ?_
  refine gf_X2_18 C dX2_rowBehind_5 ?_
  refine hs_top h (fun x_1 h => ?_)
  refine hs_rld (kd := 10) (t0 := 1) (Cn := RX3) C rfl rfl (show hs_K 5 = 10 by decide +kernel) rfl (by decide) rfl rfl h dX2_rowBehind_8 (fun h => ?_)
  refine hs_topr h (fun p_2 h => ?_)
  obtain ⟨g_3, h⟩ := hs_kg_s h
  exact hs_aret C hf h dX2_rowBehind_9
theorem m_X2_rowBehind  (S : hs_M) {r : Nat} {S' : hs_M} (h : f_X2_rowBehind  S = some (r, S')) : hs_met 0 yX2_rowBehind cX2_rowBehind 1 (some (.object "HeaderSqueeze$Packet")) 0 (fun q => [.ref (q 4)]) S (fun q => some (.ref (q r))) S' :=
  hs_mkR (res := (r, S')) (by decide +kernel) (by decide) (fun q => Nat.le_of_ble_eq_true rfl) fun X C hf => (t_X2_rowBehind_0 C hf  S h)
set_option maxRecDepth 100000 in
set_option maxHeartbeats 4000000 in
theorem t_X2_takeOff_19 {X : hs_T} (C : hs_C X 0 RX2 cX2_takeOff 4 0) {res : Nat × hs_M} (hf : hs_FR X cX2_takeOff res) (K19 : Nat → Int32 → hs_M → Option (Nat × hs_M)) (hK19 : ∀ (p2 : Nat) (_ : hs_K p2 = 3) (x3 : Int32) (S : hs_M), K19 p2 x3 S = some res → hs_Z X 4 S [(0, .ref (hs_q X 4)), (2, .ref (hs_q X p2)), (3, .int x3)] [] 19) (p2 : Nat) (gp2 : hs_K p2 = 3) (x3 : Int32) (S : hs_M) (h : fb_X2_takeOff_19 K19 p2 x3 S = some res) : hs_Z X 4 S [(0, .ref (hs_q X 4)), (2, .ref (hs_q X p2)), (3, .int x3)] [] 19 := by
  unfold fb_X2_takeOff_19 at h
  refine hs_iload_n C dX2_takeOff_19 2 rfl rfl ?_
  refine hs_aload_n C dX2_takeOff_20 0 rfl rfl ?_
  refine gf_X2_18 C dX2_takeOff_21 ?_
  refine hs_icmp_ge (tgt := 47) C dX2_takeOff_24 (by decide) h (fun h => ?_) (fun h => ?_)
  · skip
    refine hs_aload_n C dX2_takeOff_47 0 rfl rfl ?_
    refine gf_X2_11 C dX2_takeOff_48 ?_
    refine hs_aload_n C dX2_takeOff_51 0 rfl rfl ?_
    refine gf_X2_18 C dX2_takeOff_52 ?_
    refine hs_aload_n C dX2_takeOff_55 1 rfl rfl ?_
    refine hs_rst C rfl (show hs_K 5 = 10 by decide +kernel) gp2 h dX2_takeOff_56 (fun S_1 h => ?_)
    refine hs_aload_n C dX2_takeOff_57 1 rfl rfl ?_
    exact hs_aret C hf h dX2_takeOff_58
  · skip
    refine hs_aload_n C dX2_takeOff_27 0 rfl rfl ?_
    refine gf_X2_11 C dX2_takeOff_28 ?_
    refine hs_iload_n C dX2_takeOff_31 2 rfl rfl ?_
    refine hs_aload_n C dX2_takeOff_32 0 rfl rfl ?_
    refine gf_X2_11 C dX2_takeOff_33 ?_
    refine hs_iload_n C dX2_takeOff_36 2 rfl rfl ?_
    refine hs_iconst (v := 1) C dX2_takeOff_37 (by decide) ?_
    refine hs_iadd C dX2_takeOff_38 ?_
    refine hs_top h (fun x_2 h => ?_)
    refine hs_rld (kd := 10) (t0 := 1) (Cn := RX3) C rfl rfl (show hs_K 5 = 10 by decide +kernel) rfl (by decide) rfl rfl h dX2_takeOff_39 (fun h => ?_)
    refine hs_topr h (fun p_3 h => ?_)
    obtain ⟨g_4, h⟩ := hs_kg_s h
    refine hs_rst C rfl (show hs_K 5 = 10 by decide +kernel) g_4 h dX2_takeOff_40 (fun S_5 h => ?_)
    refine hs_iinc' (1 : Int32) C dX2_takeOff_41 2 rfl (by decide) (by decide) h (fun x_6 h => ?_)
    show hs_Z X _ _ [(3, .int x_6), (0, .ref (hs_q X 4)), (2, .ref (hs_q X p2))] _ _
    refine hs_goto (tgt := 19) C dX2_takeOff_44 (by decide) ?_
    refine hs_sub [1, 2, 0] rfl ?_
    exact hK19 p2 gp2 x_6 S_5 h
theorem t_X2_takeOff_19l {X : hs_T} (C : hs_C X 0 RX2 cX2_takeOff 4 0) {res : Nat × hs_M} (hf : hs_FR X cX2_takeOff res)  : ∀ (n : Nat) (p2 : Nat) (gp2 : hs_K p2 = 3) (x3 : Int32) (S : hs_M), f_X2_takeOff_19  n p2 x3 S = some res → hs_Z X 4 S [(0, .ref (hs_q X 4)), (2, .ref (hs_q X p2)), (3, .int x3)] [] 19 := by
  intro n
  induction n with
  | zero =>
    intro p2 gp2 x3 S h
    cases h
  | succ n ih =>
    intro p2 gp2 x3 S h
    exact t_X2_takeOff_19 C hf  (f_X2_takeOff_19  n) ih p2 gp2 x3 S h
set_option maxRecDepth 100000 in
set_option maxHeartbeats 4000000 in
theorem t_X2_takeOff_0 {X : hs_T} (C : hs_C X 0 RX2 cX2_takeOff 4 0) {res : Nat × hs_M} (hf : hs_FR X cX2_takeOff res) (x1 : Int32) (S : hs_M) (h : f_X2_takeOff_0 x1 S = some res) : hs_Z X 4 S [(0, .ref (hs_q X 4)), (1, .int x1)] [] 0 := by
  unfold f_X2_takeOff_0 at h
  refine hs_aload_n C dX2_takeOff_0 0 rfl rfl ?_
  refine gf_X2_11 C dX2_takeOff_1 ?_
  refine hs_iload_n C dX2_takeOff_4 1 rfl rfl ?_
  refine hs_rld (kd := 10) (t0 := 1) (Cn := RX3) C rfl rfl (show hs_K 5 = 10 by decide +kernel) rfl (by decide) rfl rfl h dX2_takeOff_5 (fun h => ?_)
  refine hs_topr h (fun p_1 h => ?_)
  obtain ⟨g_2, h⟩ := hs_kg_s h
  refine hs_astore_n (lv' := [(2, .ref (hs_q X p_1)), (0, .ref (hs_q X 4)), (1, .int x1)]) C dX2_takeOff_6 rfl (by decide) rfl ?_
  refine hs_aload_n C dX2_takeOff_7 1 rfl rfl ?_
  refine hs_dup C dX2_takeOff_8 rfl ?_
  refine gf_X2_18 C dX2_takeOff_9 ?_
  refine hs_iconst (v := 1) C dX2_takeOff_12 (by decide) ?_
  refine hs_isub C dX2_takeOff_13 ?_
  refine pf_X2_18 C h dX2_takeOff_14 (fun S_3 h => ?_)
  refine hs_iload_n C dX2_takeOff_17 2 rfl rfl ?_
  refine hs_istore_n (lv' := [(3, .int x1), (2, .ref (hs_q X p_1)), (0, .ref (hs_q X 4)), (1, .int x1)]) C dX2_takeOff_18 rfl (by decide) rfl ?_
  refine hs_sub [2, 1, 0] rfl ?_
  exact t_X2_takeOff_19l C hf  hs_fuel p_1 g_2 x1 S_3 h
theorem m_X2_takeOff (a1 : Int32) (S : hs_M) {r : Nat} {S' : hs_M} (h : f_X2_takeOff a1 S = some (r, S')) : hs_met 0 yX2_takeOff cX2_takeOff 4 (some (.object "HeaderSqueeze$Packet")) 0 (fun q => [.ref (q 4), .int a1]) S (fun q => some (.ref (q r))) S' :=
  hs_mkR (res := (r, S')) (by decide +kernel) (by decide) (fun q => Nat.le_of_ble_eq_true rfl) fun X C hf => (t_X2_takeOff_0 C hf a1 S h)
set_option maxRecDepth 100000 in
set_option maxHeartbeats 4000000 in
theorem t_X3_own_0 {X : hs_T} (C : hs_C X 0 RX3 cX3_own 2 0) {res : Int32 × hs_M} (hf : hs_FI X cX3_own res) (p0 : Nat) (gp0 : hs_K p0 = 3) (x1 : Int32) (S : hs_M) (h : f_X3_own_0 p0 x1 S = some res) : hs_Z X 2 S [(0, .ref (hs_q X p0)), (1, .int x1)] [] 0 := by
  unfold f_X3_own_0 at h
  refine hs_aload_n C dX3_own_0 0 rfl rfl ?_
  refine gf_X3_9 C gp0 dX3_own_1 ?_
  refine hs_aload_n C dX3_own_4 0 rfl rfl ?_
  refine gf_X3_63 C gp0 dX3_own_5 ?_
  refine hs_iload_n C dX3_own_8 1 rfl rfl ?_
  refine hs_iadd C dX3_own_9 ?_
  refine hs_top h (fun x_1 h => ?_)
  refine hs_ald (kd := 8) C (Or.inl rfl) rfl (hs_k30 gp0) h dX3_own_10 (fun h => ?_)
  exact hs_ireti C hf h dX3_own_11
theorem m_X3_own (i0 : Nat) (gi0 : hs_K i0 = 3) (a1 : Int32) (S : hs_M) {r : Int32} {S' : hs_M} (h : f_X3_own i0 a1 S = some (r, S')) : hs_met 0 yX3_own cX3_own 2 (some .int) 0 (fun q => [.ref (q i0), .int a1]) S (fun q => some (.int r)) S' :=
  hs_mkI (res := (r, S')) (by decide +kernel) (by decide) (fun q => Nat.le_of_ble_eq_true rfl) fun X C hf => (t_X3_own_0 C hf i0 gi0 a1 S h)
set_option maxRecDepth 100000 in
set_option maxHeartbeats 4000000 in
theorem t_X3_isNoMark_16 {X : hs_T} (C : hs_C X 0 RX3 cX3_isNoMark 1 0) {res : Int32 × hs_M} (hf : hs_FB X cX3_isNoMark res) (y0 : Int32) (S : hs_M) (h : f_X3_isNoMark_16 y0 S = some res) : hs_Z X 1 S [] [.int y0] 16 := by
  unfold f_X3_isNoMark_16 at h
  exact hs_iretb C hf h dX3_isNoMark_16
set_option maxRecDepth 100000 in
set_option maxHeartbeats 4000000 in
theorem t_X3_isNoMark_15 {X : hs_T} (C : hs_C X 0 RX3 cX3_isNoMark 1 0) {res : Int32 × hs_M} (hf : hs_FB X cX3_isNoMark res) (S : hs_M) (h : f_X3_isNoMark_15  S = some res) : hs_Z X 1 S [] [] 15 := by
  unfold f_X3_isNoMark_15 at h
  refine hs_iconst (v := 0) C dX3_isNoMark_15 (by decide) ?_
  exact t_X3_isNoMark_16 C hf  (0 : Int32) S h
set_option maxRecDepth 100000 in
set_option maxHeartbeats 4000000 in
theorem t_X3_isNoMark_0 {X : hs_T} (C : hs_C X 0 RX3 cX3_isNoMark 1 0) {res : Int32 × hs_M} (hf : hs_FB X cX3_isNoMark res) (x0 : Int32) (S : hs_M) (h : f_X3_isNoMark_0 x0 S = some res) : hs_Z X 1 S [(0, .int x0)] [] 0 := by
  unfold f_X3_isNoMark_0 at h
  refine hs_iload_n C dX3_isNoMark_0 0 rfl rfl ?_
  refine hs_if_eq (tgt := 15) C dX3_isNoMark_1 (by decide) h (fun h => ?_) (fun h => ?_)
  · skip
    refine hs_sub [] rfl ?_
    exact t_X3_isNoMark_15 C hf   S h
  · skip
    refine hs_iload_n C dX3_isNoMark_4 0 rfl rfl ?_
    refine hs_sipush (v := 128) C dX3_isNoMark_5 (by decide) ?_
    refine hs_icmp_eq (tgt := 15) C dX3_isNoMark_8 (by decide) h (fun h => ?_) (fun h => ?_)
    · skip
      refine hs_sub [] rfl ?_
      exact t_X3_isNoMark_15 C hf   S h
    · skip
      refine hs_iconst (v := 1) C dX3_isNoMark_11 (by decide) ?_
      refine hs_goto (tgt := 16) C dX3_isNoMark_12 (by decide) ?_
      refine hs_sub [] rfl ?_
      exact t_X3_isNoMark_16 C hf  (1 : Int32) S h
theorem m_X3_isNoMark (a0 : Int32) (S : hs_M) {r : Int32} {S' : hs_M} (h : f_X3_isNoMark a0 S = some (r, S')) : hs_met 0 yX3_isNoMark cX3_isNoMark 1 (some .boolean) 0 (fun q => [.int a0]) S (fun q => some (.int r)) S' :=
  hs_mkB (res := (r, S')) (by decide +kernel) (by decide) (fun q => Nat.le_of_ble_eq_true rfl) fun X C hf => (t_X3_isNoMark_0 C hf a0 S h)
set_option maxRecDepth 100000 in
set_option maxHeartbeats 4000000 in
theorem t_X3_isMisshapen_104 {X : hs_T} (C : hs_C X 0 RX3 cX3_isMisshapen 1 1) {res : Int32 × hs_M} (hf : hs_FB X cX3_isMisshapen res) (y0 : Int32) (S : hs_M) (h : f_X3_isMisshapen_104 y0 S = some res) : hs_Z X 1 S [] [.int y0] 104 := by
  unfold f_X3_isMisshapen_104 at h
  exact hs_iretb C hf h dX3_isMisshapen_104
set_option maxRecDepth 100000 in
set_option maxHeartbeats 4000000 in
theorem t_X3_isMisshapen_99 {X : hs_T} (C : hs_C X 0 RX3 cX3_isMisshapen 1 1) {res : Int32 × hs_M} (hf : hs_FB X cX3_isMisshapen res) (S : hs_M) (h : f_X3_isMisshapen_99  S = some res) : hs_Z X 1 S [] [] 99 := by
  unfold f_X3_isMisshapen_99 at h
  refine hs_iconst (v := 1) C dX3_isMisshapen_99 (by decide) ?_
  refine hs_goto (tgt := 104) C dX3_isMisshapen_100 (by decide) ?_
  exact t_X3_isMisshapen_104 C hf  (1 : Int32) S h
set_option maxRecDepth 100000 in
set_option maxHeartbeats 4000000 in
theorem t_X3_isMisshapen_67 {X : hs_T} (C : hs_C X 0 RX3 cX3_isMisshapen 1 1) {res : Int32 × hs_M} (hf : hs_FB X cX3_isMisshapen res) (y0 : Int32) (S : hs_M) (h : f_X3_isMisshapen_67 y0 S = some res) : hs_Z X 1 S [] [.int y0] 67 := by
  unfold f_X3_isMisshapen_67 at h
  exact hs_iretb C hf h dX3_isMisshapen_67
set_option maxRecDepth 100000 in
set_option maxHeartbeats 4000000 in
theorem t_X3_isMisshapen_0 {X : hs_T} (C : hs_C X 0 RX3 cX3_isMisshapen 1 1) {res : Int32 × hs_M} (hf : hs_FB X cX3_isMisshapen res) (p0 : Nat) (gp0 : hs_K p0 = 3) (S : hs_M) (h : f_X3_isMisshapen_0 p0 S = some res) : hs_Z X 1 S [(0, .ref (hs_q X p0))] [] 0 := by
  unfold f_X3_isMisshapen_0 at h
  refine hs_aload_n C dX3_isMisshapen_0 0 rfl rfl ?_
  refine gf_X3_28 C gp0 dX3_isMisshapen_1 ?_
  refine hs_aload_n C dX3_isMisshapen_4 0 rfl rfl ?_
  refine gf_X3_63 C gp0 dX3_isMisshapen_5 ?_
  refine hs_isub C dX3_isMisshapen_8 ?_
  refine hs_gets (j := 0) (nm := "PACKET_BYTES") C (by decide) rfl (by decide +kernel) dX3_isMisshapen_9 ?_
  refine hs_aload_n C dX3_isMisshapen_12 0 rfl rfl ?_
  refine gf_X3_69 C gp0 dX3_isMisshapen_13 ?_
  refine hs_top h (fun x_1 h => ?_)
  refine hs_sld C (by decide) h dX3_isMisshapen_16 (fun h => ?_)
  refine hs_icmp_eq (tgt := 22) C dX3_isMisshapen_17 (by decide) h (fun h => ?_) (fun h => ?_)
  · skip
    refine hs_aload_n C dX3_isMisshapen_22 0 rfl rfl ?_
    refine gf_X3_69 C gp0 dX3_isMisshapen_23 ?_
    refine hs_top h (fun x_2 h => ?_)
    rcases hs_if_s h with ⟨c_3, h⟩ | ⟨c_3, h⟩
    · skip
      refine hs_tableIn (off := 26) (tgt := 52) C dX3_isMisshapen_26 (by rw [c_3]; decide) (by rw [c_3]; decide) (by rw [c_3]; rfl) (by decide) ?_
      refine hs_aload_n C dX3_isMisshapen_52 0 rfl rfl ?_
      refine hs_iconst (v := 1) C dX3_isMisshapen_53 (by decide) ?_
      obtain ⟨r_6, S_4, hc_5, h⟩ := hs_b2_s h
      refine cs_X3_79 C gp0 (m_X3_own p0 gp0 (1 : Int32) S hc_5) (by decide) (Nat.le_of_ble_eq_true rfl) dX3_isMisshapen_54 ?_
      refine hs_iconst (v := 3) C dX3_isMisshapen_57 (by decide) ?_
      refine hs_iand C dX3_isMisshapen_58 ?_
      refine hs_if_eq (tgt := 66) C dX3_isMisshapen_59 (by decide) h (fun h => ?_) (fun h => ?_)
      · skip
        refine hs_iconst (v := 0) C dX3_isMisshapen_66 (by decide) ?_
        refine hs_sub [] rfl ?_
        exact t_X3_isMisshapen_67 C hf  (0 : Int32) S_4 h
      · skip
        refine hs_iconst (v := 1) C dX3_isMisshapen_62 (by decide) ?_
        refine hs_goto (tgt := 67) C dX3_isMisshapen_63 (by decide) ?_
        refine hs_sub [] rfl ?_
        exact t_X3_isMisshapen_67 C hf  (1 : Int32) S_4 h
    · skip
      rcases hs_if_s h with ⟨c_7, h⟩ | ⟨c_7, h⟩
      · skip
        refine hs_tableIn (off := 42) (tgt := 68) C dX3_isMisshapen_26 (by rw [c_7]; decide) (by rw [c_7]; decide) (by rw [c_7]; rfl) (by decide) ?_
        refine hs_aload_n C dX3_isMisshapen_68 0 rfl rfl ?_
        refine hs_iconst (v := 1) C dX3_isMisshapen_69 (by decide) ?_
        obtain ⟨r_10, S_8, hc_9, h⟩ := hs_b2_s h
        refine cs_X3_79 C gp0 (m_X3_own p0 gp0 (1 : Int32) S hc_9) (by decide) (Nat.le_of_ble_eq_true rfl) dX3_isMisshapen_70 ?_
        obtain ⟨r_13, S_11, hc_12, h⟩ := hs_b2_s h
        refine cs_X3_82 C (m_X3_isNoMark r_10 S_8 hc_12) (by decide) (Nat.le_of_ble_eq_true rfl) dX3_isMisshapen_73 ?_
        exact hs_iretb C hf h dX3_isMisshapen_76
      · skip
        rcases hs_if_s h with ⟨c_14, h⟩ | ⟨c_14, h⟩
        · skip
          refine hs_tableIn (off := 51) (tgt := 77) C dX3_isMisshapen_26 (by rw [c_14]; decide) (by rw [c_14]; decide) (by rw [c_14]; rfl) (by decide) ?_
          refine hs_aload_n C dX3_isMisshapen_77 0 rfl rfl ?_
          refine hs_iconst (v := 3) C dX3_isMisshapen_78 (by decide) ?_
          obtain ⟨r_17, S_15, hc_16, h⟩ := hs_b2_s h
          refine cs_X3_79 C gp0 (m_X3_own p0 gp0 (3 : Int32) S hc_16) (by decide) (Nat.le_of_ble_eq_true rfl) dX3_isMisshapen_79 ?_
          refine hs_bipush (v := 127) C dX3_isMisshapen_82 (by decide) ?_
          refine hs_icmp_gt (tgt := 99) C dX3_isMisshapen_84 (by decide) h (fun h => ?_) (fun h => ?_)
          · skip
            refine hs_sub [] rfl ?_
            exact t_X3_isMisshapen_99 C hf   S_15 h
          · skip
            refine hs_aload_n C dX3_isMisshapen_87 0 rfl rfl ?_
            refine hs_bipush (v := 6) C dX3_isMisshapen_88 (by decide) ?_
            obtain ⟨r_20, S_18, hc_19, h⟩ := hs_b2_s h
            refine cs_X3_79 C gp0 (m_X3_own p0 gp0 (6 : Int32) S_15 hc_19) (by decide) (Nat.le_of_ble_eq_true rfl) dX3_isMisshapen_90 ?_
            obtain ⟨r_23, S_21, hc_22, h⟩ := hs_b2_s h
            refine cs_X3_82 C (m_X3_isNoMark r_20 S_18 hc_22) (by decide) (Nat.le_of_ble_eq_true rfl) dX3_isMisshapen_93 ?_
            refine hs_if_eq (tgt := 103) C dX3_isMisshapen_96 (by decide) h (fun h => ?_) (fun h => ?_)
            · skip
              refine hs_iconst (v := 0) C dX3_isMisshapen_103 (by decide) ?_
              refine hs_sub [] rfl ?_
              exact t_X3_isMisshapen_104 C hf  (0 : Int32) S_21 h
            · skip
              refine hs_sub [] rfl ?_
              exact t_X3_isMisshapen_99 C hf   S_21 h
        · skip
          refine hs_tableOut (tgt := 105) C dX3_isMisshapen_26 (by have e0 := lv_neT (a := 2) c_3 (by decide); have e1 := lv_neT (a := 3) c_7 (by decide); have e2 := lv_neT (a := 4) c_14 (by decide); omega) (by decide) ?_
          refine hs_iconst (v := 0) C dX3_isMisshapen_105 (by decide) ?_
          exact hs_iretb C hf h dX3_isMisshapen_106
  · skip
    refine hs_iconst (v := 1) C dX3_isMisshapen_20 (by decide) ?_
    exact hs_iretb C hf h dX3_isMisshapen_21
theorem m_X3_isMisshapen (i0 : Nat) (gi0 : hs_K i0 = 3) (S : hs_M) {r : Int32} {S' : hs_M} (h : f_X3_isMisshapen i0 S = some (r, S')) : hs_met 0 yX3_isMisshapen cX3_isMisshapen 1 (some .boolean) 1 (fun q => [.ref (q i0)]) S (fun q => some (.int r)) S' :=
  hs_mkB (res := (r, S')) (by decide +kernel) (by decide) (fun q => Nat.le_of_ble_eq_true rfl) fun X C hf => (t_X3_isMisshapen_0 C hf i0 gi0 S h)
set_option maxRecDepth 100000 in
set_option maxHeartbeats 4000000 in
theorem t_X3_kindTold_48 {X : hs_T} (C : hs_C X 0 RX3 cX3_kindTold 1 0) {res : Int32 × hs_M} (hf : hs_FI X cX3_kindTold res) (y0 : Int32) (S : hs_M) (h : f_X3_kindTold_48 y0 S = some res) : hs_Z X 1 S [] [.int y0] 48 := by
  unfold f_X3_kindTold_48 at h
  exact hs_ireti C hf h dX3_kindTold_48
set_option maxRecDepth 100000 in
set_option maxHeartbeats 4000000 in
theorem t_X3_kindTold_0 {X : hs_T} (C : hs_C X 0 RX3 cX3_kindTold 1 0) {res : Int32 × hs_M} (hf : hs_FI X cX3_kindTold res) (x0 : Int32) (S : hs_M) (h : f_X3_kindTold_0 x0 S = some res) : hs_Z X 1 S [(0, .int x0)] [] 0 := by
  unfold f_X3_kindTold_0 at h
  refine hs_iload_n C dX3_kindTold_0 0 rfl rfl ?_
  refine hs_sipush (v := 128) C dX3_kindTold_1 (by decide) ?_
  refine hs_icmp_ge (tgt := 9) C dX3_kindTold_4 (by decide) h (fun h => ?_) (fun h => ?_)
  · skip
    refine hs_iload_n C dX3_kindTold_9 0 rfl rfl ?_
    refine hs_sipush (v := 192) C dX3_kindTold_10 (by decide) ?_
    refine hs_icmp_ge (tgt := 18) C dX3_kindTold_13 (by decide) h (fun h => ?_) (fun h => ?_)
    · skip
      refine hs_iload_n C dX3_kindTold_18 0 rfl rfl ?_
      refine hs_sipush (v := 224) C dX3_kindTold_19 (by decide) ?_
      refine hs_icmp_ge (tgt := 27) C dX3_kindTold_22 (by decide) h (fun h => ?_) (fun h => ?_)
      · skip
        refine hs_iload_n C dX3_kindTold_27 0 rfl rfl ?_
        refine hs_sipush (v := 248) C dX3_kindTold_28 (by decide) ?_
        refine hs_icmp_ne (tgt := 36) C dX3_kindTold_31 (by decide) h (fun h => ?_) (fun h => ?_)
        · skip
          refine hs_iload_n C dX3_kindTold_36 0 rfl rfl ?_
          refine hs_sipush (v := 253) C dX3_kindTold_37 (by decide) ?_
          refine hs_icmp_ne (tgt := 47) C dX3_kindTold_40 (by decide) h (fun h => ?_) (fun h => ?_)
          · skip
            refine hs_iconst (v := (-1)) C dX3_kindTold_47 (by decide) ?_
            refine hs_sub [] rfl ?_
            exact t_X3_kindTold_48 C hf  (-1 : Int32) S h
          · skip
            refine hs_iconst (v := 4) C dX3_kindTold_43 (by decide) ?_
            refine hs_goto (tgt := 48) C dX3_kindTold_44 (by decide) ?_
            refine hs_sub [] rfl ?_
            exact t_X3_kindTold_48 C hf  (4 : Int32) S h
        · skip
          refine hs_iconst (v := 3) C dX3_kindTold_34 (by decide) ?_
          exact hs_ireti C hf h dX3_kindTold_35
      · skip
        refine hs_iconst (v := 2) C dX3_kindTold_25 (by decide) ?_
        exact hs_ireti C hf h dX3_kindTold_26
    · skip
      refine hs_iconst (v := 1) C dX3_kindTold_16 (by decide) ?_
      exact hs_ireti C hf h dX3_kindTold_17
  · skip
    refine hs_iconst (v := 0) C dX3_kindTold_7 (by decide) ?_
    exact hs_ireti C hf h dX3_kindTold_8
theorem m_X3_kindTold (a0 : Int32) (S : hs_M) {r : Int32} {S' : hs_M} (h : f_X3_kindTold a0 S = some (r, S')) : hs_met 0 yX3_kindTold cX3_kindTold 1 (some .int) 0 (fun q => [.int a0]) S (fun q => some (.int r)) S' :=
  hs_mkI (res := (r, S')) (by decide +kernel) (by decide) (fun q => Nat.le_of_ble_eq_true rfl) fun X C hf => (t_X3_kindTold_0 C hf a0 S h)
set_option maxRecDepth 100000 in
set_option maxHeartbeats 4000000 in
theorem t_X3_lowTold_0 {X : hs_T} (C : hs_C X 0 RX3 cX3_lowTold 1 1) {res : Int32 × hs_M} (hf : hs_FI X cX3_lowTold res) (p0 : Nat) (gp0 : hs_K p0 = 3) (S : hs_M) (h : f_X3_lowTold_0 p0 S = some res) : hs_Z X 1 S [(0, .ref (hs_q X p0))] [] 0 := by
  unfold f_X3_lowTold_0 at h
  refine hs_aload_n C dX3_lowTold_0 0 rfl rfl ?_
  refine gf_X3_69 C gp0 dX3_lowTold_1 ?_
  refine hs_top h (fun x_1 h => ?_)
  rcases hs_if_s h with ⟨c_2, h⟩ | ⟨c_2, h⟩
  · skip
    refine hs_lookup (off := 28) (tgt := 32) C dX3_lowTold_4 (by decide) (by rw [c_2]; decide) (by decide) ?_
    refine hs_aload_n C dX3_lowTold_32 0 rfl rfl ?_
    refine hs_iconst (v := 0) C dX3_lowTold_33 (by decide) ?_
    obtain ⟨r_5, S_3, hc_4, h⟩ := hs_b2_s h
    refine cs_X3_79 C gp0 (m_X3_own p0 gp0 (0 : Int32) S hc_4) (by decide) (Nat.le_of_ble_eq_true rfl) dX3_lowTold_34 ?_
    refine hs_iconst (v := 3) C dX3_lowTold_37 (by decide) ?_
    refine hs_iushr C dX3_lowTold_38 ?_
    exact hs_ireti C hf h dX3_lowTold_39
  · skip
    rcases hs_if_s h with ⟨c_6, h⟩ | ⟨c_6, h⟩
    · skip
      refine hs_lookup (off := 36) (tgt := 40) C dX3_lowTold_4 (by decide) (by rw [c_6]; decide) (by decide) ?_
      refine hs_aload_n C dX3_lowTold_40 0 rfl rfl ?_
      refine hs_iconst (v := 0) C dX3_lowTold_41 (by decide) ?_
      obtain ⟨r_9, S_7, hc_8, h⟩ := hs_b2_s h
      refine cs_X3_79 C gp0 (m_X3_own p0 gp0 (0 : Int32) S hc_8) (by decide) (Nat.le_of_ble_eq_true rfl) dX3_lowTold_42 ?_
      refine hs_bipush (v := 63) C dX3_lowTold_45 (by decide) ?_
      refine hs_iand C dX3_lowTold_47 ?_
      exact hs_ireti C hf h dX3_lowTold_48
    · skip
      refine hs_lookup (off := 45) (tgt := 49) C dX3_lowTold_4 (by decide) (by show Op.lookupswitch.offset [(0, 28), (1, 36)] (45) _ = _; rw [lv_osw c_2 (by decide)]; rw [lv_osw c_6 (by decide)]; rfl) (by decide) ?_
      refine hs_aload_n C dX3_lowTold_49 0 rfl rfl ?_
      refine hs_iconst (v := 0) C dX3_lowTold_50 (by decide) ?_
      obtain ⟨r_12, S_10, hc_11, h⟩ := hs_b2_s h
      refine cs_X3_79 C gp0 (m_X3_own p0 gp0 (0 : Int32) S hc_11) (by decide) (Nat.le_of_ble_eq_true rfl) dX3_lowTold_51 ?_
      refine hs_bipush (v := 31) C dX3_lowTold_54 (by decide) ?_
      refine hs_iand C dX3_lowTold_56 ?_
      refine hs_bipush (v := 32) C dX3_lowTold_57 (by decide) ?_
      refine hs_imul C dX3_lowTold_59 ?_
      refine hs_aload_n C dX3_lowTold_60 0 rfl rfl ?_
      refine hs_iconst (v := 1) C dX3_lowTold_61 (by decide) ?_
      obtain ⟨r_15, S_13, hc_14, h⟩ := hs_b2_s h
      refine cs_X3_79 C gp0 (m_X3_own p0 gp0 (1 : Int32) S_10 hc_14) (by decide) (Nat.le_of_ble_eq_true rfl) dX3_lowTold_62 ?_
      refine hs_iconst (v := 3) C dX3_lowTold_65 (by decide) ?_
      refine hs_iushr C dX3_lowTold_66 ?_
      refine hs_iadd C dX3_lowTold_67 ?_
      exact hs_ireti C hf h dX3_lowTold_68
theorem m_X3_lowTold (i0 : Nat) (gi0 : hs_K i0 = 3) (S : hs_M) {r : Int32} {S' : hs_M} (h : f_X3_lowTold i0 S = some (r, S')) : hs_met 0 yX3_lowTold cX3_lowTold 1 (some .int) 1 (fun q => [.ref (q i0)]) S (fun q => some (.int r)) S' :=
  hs_mkI (res := (r, S')) (by decide +kernel) (by decide) (fun q => Nat.le_of_ble_eq_true rfl) fun X C hf => (t_X3_lowTold_0 C hf i0 gi0 S h)
set_option maxRecDepth 100000 in
set_option maxHeartbeats 4000000 in
theorem t_X3_markTold_66 {X : hs_T} (C : hs_C X 0 RX3 cX3_markTold 1 1) {res : Int32 × hs_M} (hf : hs_FB X cX3_markTold res) (y0 : Int32) (S : hs_M) (h : f_X3_markTold_66 y0 S = some res) : hs_Z X 1 S [] [.int y0] 66 := by
  unfold f_X3_markTold_66 at h
  exact hs_iretb C hf h dX3_markTold_66
set_option maxRecDepth 100000 in
set_option maxHeartbeats 4000000 in
theorem t_X3_markTold_50 {X : hs_T} (C : hs_C X 0 RX3 cX3_markTold 1 1) {res : Int32 × hs_M} (hf : hs_FB X cX3_markTold res) (y0 : Int32) (S : hs_M) (h : f_X3_markTold_50 y0 S = some res) : hs_Z X 1 S [] [.int y0] 50 := by
  unfold f_X3_markTold_50 at h
  exact hs_iretb C hf h dX3_markTold_50
set_option maxRecDepth 100000 in
set_option maxHeartbeats 4000000 in
theorem t_X3_markTold_0 {X : hs_T} (C : hs_C X 0 RX3 cX3_markTold 1 1) {res : Int32 × hs_M} (hf : hs_FB X cX3_markTold res) (p0 : Nat) (gp0 : hs_K p0 = 3) (S : hs_M) (h : f_X3_markTold_0 p0 S = some res) : hs_Z X 1 S [(0, .ref (hs_q X p0))] [] 0 := by
  unfold f_X3_markTold_0 at h
  refine hs_aload_n C dX3_markTold_0 0 rfl rfl ?_
  refine gf_X3_69 C gp0 dX3_markTold_1 ?_
  refine hs_top h (fun x_1 h => ?_)
  rcases hs_if_s h with ⟨c_2, h⟩ | ⟨c_2, h⟩
  · skip
    refine hs_lookup (off := 28) (tgt := 32) C dX3_markTold_4 (by decide) (by rw [c_2]; decide) (by decide) ?_
    refine hs_iconst (v := 0) C dX3_markTold_32 (by decide) ?_
    exact hs_iretb C hf h dX3_markTold_33
  · skip
    rcases hs_if_s h with ⟨c_3, h⟩ | ⟨c_3, h⟩
    · skip
      refine hs_lookup (off := 30) (tgt := 34) C dX3_markTold_4 (by decide) (by rw [c_3]; decide) (by decide) ?_
      refine hs_aload_n C dX3_markTold_34 0 rfl rfl ?_
      refine hs_iconst (v := 1) C dX3_markTold_35 (by decide) ?_
      obtain ⟨r_6, S_4, hc_5, h⟩ := hs_b2_s h
      refine cs_X3_79 C gp0 (m_X3_own p0 gp0 (1 : Int32) S hc_5) (by decide) (Nat.le_of_ble_eq_true rfl) dX3_markTold_36 ?_
      refine hs_sipush (v := 128) C dX3_markTold_39 (by decide) ?_
      refine hs_icmp_lt (tgt := 49) C dX3_markTold_42 (by decide) h (fun h => ?_) (fun h => ?_)
      · skip
        refine hs_iconst (v := 0) C dX3_markTold_49 (by decide) ?_
        refine hs_sub [] rfl ?_
        exact t_X3_markTold_50 C hf  (0 : Int32) S_4 h
      · skip
        refine hs_iconst (v := 1) C dX3_markTold_45 (by decide) ?_
        refine hs_goto (tgt := 50) C dX3_markTold_46 (by decide) ?_
        refine hs_sub [] rfl ?_
        exact t_X3_markTold_50 C hf  (1 : Int32) S_4 h
    · skip
      refine hs_lookup (off := 47) (tgt := 51) C dX3_markTold_4 (by decide) (by show Op.lookupswitch.offset [(0, 28), (1, 30)] (47) _ = _; rw [lv_osw c_2 (by decide)]; rw [lv_osw c_3 (by decide)]; rfl) (by decide) ?_
      refine hs_aload_n C dX3_markTold_51 0 rfl rfl ?_
      refine hs_iconst (v := 1) C dX3_markTold_52 (by decide) ?_
      obtain ⟨r_9, S_7, hc_8, h⟩ := hs_b2_s h
      refine cs_X3_79 C gp0 (m_X3_own p0 gp0 (1 : Int32) S hc_8) (by decide) (Nat.le_of_ble_eq_true rfl) dX3_markTold_53 ?_
      refine hs_iconst (v := 4) C dX3_markTold_56 (by decide) ?_
      refine hs_iand C dX3_markTold_57 ?_
      refine hs_if_eq (tgt := 65) C dX3_markTold_58 (by decide) h (fun h => ?_) (fun h => ?_)
      · skip
        refine hs_iconst (v := 0) C dX3_markTold_65 (by decide) ?_
        refine hs_sub [] rfl ?_
        exact t_X3_markTold_66 C hf  (0 : Int32) S_7 h
      · skip
        refine hs_iconst (v := 1) C dX3_markTold_61 (by decide) ?_
        refine hs_goto (tgt := 66) C dX3_markTold_62 (by decide) ?_
        refine hs_sub [] rfl ?_
        exact t_X3_markTold_66 C hf  (1 : Int32) S_7 h
theorem m_X3_markTold (i0 : Nat) (gi0 : hs_K i0 = 3) (S : hs_M) {r : Int32} {S' : hs_M} (h : f_X3_markTold i0 S = some (r, S')) : hs_met 0 yX3_markTold cX3_markTold 1 (some .boolean) 1 (fun q => [.ref (q i0)]) S (fun q => some (.int r)) S' :=
  hs_mkB (res := (r, S')) (by decide +kernel) (by decide) (fun q => Nat.le_of_ble_eq_true rfl) fun X C hf => (t_X3_markTold_0 C hf i0 gi0 S h)
set_option maxRecDepth 100000 in
set_option maxHeartbeats 4000000 in
theorem t_X3_ownTwo_0 {X : hs_T} (C : hs_C X 0 RX3 cX3_ownTwo 2 1) {res : Int32 × hs_M} (hf : hs_FI X cX3_ownTwo res) (p0 : Nat) (gp0 : hs_K p0 = 3) (x1 : Int32) (S : hs_M) (h : f_X3_ownTwo_0 p0 x1 S = some res) : hs_Z X 2 S [(0, .ref (hs_q X p0)), (1, .int x1)] [] 0 := by
  unfold f_X3_ownTwo_0 at h
  refine hs_aload_n C dX3_ownTwo_0 0 rfl rfl ?_
  refine hs_iload_n C dX3_ownTwo_1 1 rfl rfl ?_
  obtain ⟨r_3, S_1, hc_2, h⟩ := hs_b2_s h
  refine cs_X3_79 C gp0 (m_X3_own p0 gp0 x1 S hc_2) (by decide) (Nat.le_of_ble_eq_true rfl) dX3_ownTwo_2 ?_
  refine hs_sipush (v := 256) C dX3_ownTwo_5 (by decide) ?_
  refine hs_imul C dX3_ownTwo_8 ?_
  refine hs_aload_n C dX3_ownTwo_9 0 rfl rfl ?_
  refine hs_iload_n C dX3_ownTwo_10 1 rfl rfl ?_
  refine hs_iconst (v := 1) C dX3_ownTwo_11 (by decide) ?_
  refine hs_iadd C dX3_ownTwo_12 ?_
  obtain ⟨r_6, S_4, hc_5, h⟩ := hs_b2_s h
  refine cs_X3_79 C gp0 (m_X3_own p0 gp0 (x1 + (1 : Int32)) S_1 hc_5) (by decide) (Nat.le_of_ble_eq_true rfl) dX3_ownTwo_13 ?_
  refine hs_iadd C dX3_ownTwo_16 ?_
  exact hs_ireti C hf h dX3_ownTwo_17
theorem m_X3_ownTwo (i0 : Nat) (gi0 : hs_K i0 = 3) (a1 : Int32) (S : hs_M) {r : Int32} {S' : hs_M} (h : f_X3_ownTwo i0 a1 S = some (r, S')) : hs_met 0 yX3_ownTwo cX3_ownTwo 2 (some .int) 1 (fun q => [.ref (q i0), .int a1]) S (fun q => some (.int r)) S' :=
  hs_mkI (res := (r, S')) (by decide +kernel) (by decide) (fun q => Nat.le_of_ble_eq_true rfl) fun X C hf => (t_X3_ownTwo_0 C hf i0 gi0 a1 S h)
set_option maxRecDepth 100000 in
set_option maxHeartbeats 4000000 in
theorem t_X3_put_29 {X : hs_T} (C : hs_C X 0 RX3 cX3_put 2 0) {res : hs_M} (hf : hs_FV X cX3_put res) (S : hs_M) (h : f_X3_put_29  S = some res) : hs_Z X 2 S [] [] 29 := by
  unfold f_X3_put_29 at h
  exact hs_vret C hf h dX3_put_29
set_option maxRecDepth 100000 in
set_option maxHeartbeats 4000000 in
theorem t_X3_put_0 {X : hs_T} (C : hs_C X 0 RX3 cX3_put 2 0) {res : hs_M} (hf : hs_FV X cX3_put res) (p0 : Nat) (gp0 : hs_K p0 = 3) (x1 : Int32) (S : hs_M) (h : f_X3_put_0 p0 x1 S = some res) : hs_Z X 2 S [(0, .ref (hs_q X p0)), (1, .int x1)] [] 0 := by
  unfold f_X3_put_0 at h
  refine hs_aload_n C dX3_put_0 0 rfl rfl ?_
  refine gf_X3_28 C gp0 dX3_put_1 ?_
  refine hs_bipush (v := 17) C dX3_put_4 (by decide) ?_
  refine hs_icmp_ge (tgt := 29) C dX3_put_6 (by decide) h (fun h => ?_) (fun h => ?_)
  · skip
    refine hs_sub [] rfl ?_
    exact t_X3_put_29 C hf   S h
  · skip
    refine hs_aload_n C dX3_put_9 0 rfl rfl ?_
    refine gf_X3_9 C gp0 dX3_put_10 ?_
    refine hs_aload_n C dX3_put_13 0 rfl rfl ?_
    refine gf_X3_28 C gp0 dX3_put_14 ?_
    refine hs_iload_n C dX3_put_17 1 rfl rfl ?_
    refine hs_ast (kd := 8) C (Or.inl rfl) rfl (hs_k30 gp0) h dX3_put_18 (fun S_1 h => ?_)
    refine hs_aload_n C dX3_put_19 0 rfl rfl ?_
    refine hs_dup C dX3_put_20 rfl ?_
    refine gf_X3_28 C gp0 dX3_put_21 ?_
    refine hs_iconst (v := 1) C dX3_put_24 (by decide) ?_
    refine hs_iadd C dX3_put_25 ?_
    refine pf_X3_28 C gp0 h dX3_put_26 (fun S_2 h => ?_)
    refine hs_sub [] rfl ?_
    exact t_X3_put_29 C hf   S_2 h
theorem m_X3_put (i0 : Nat) (gi0 : hs_K i0 = 3) (a1 : Int32) (S : hs_M) {S' : hs_M} (h : f_X3_put i0 a1 S = some S') : hs_met 0 yX3_put cX3_put 2 none 0 (fun q => [.ref (q i0), .int a1]) S (fun q => none) S' :=
  hs_mkV (res := S') (by decide +kernel) (by decide) (fun q => Nat.le_of_ble_eq_true rfl) fun X C hf => (t_X3_put_0 C hf i0 gi0 a1 S h)
set_option maxRecDepth 100000 in
set_option maxHeartbeats 4000000 in
theorem t_X3_putMoving_10 {X : hs_T} (C : hs_C X 0 RX3 cX3_putMoving 4 2) {res : hs_M} (hf : hs_FV X cX3_putMoving res) (K10 : Nat → Nat → Int32 → Int32 → hs_M → Option hs_M) (hK10 : ∀ (p0 : Nat) (_ : hs_K p0 = 3) (p1 : Nat) (_ : hs_K p1 = 1) (x2 : Int32) (x3 : Int32) (S : hs_M), K10 p0 p1 x2 x3 S = some res → hs_Z X 4 S [(0, .ref (hs_q X p0)), (1, .ref (hs_q X p1)), (2, .int x2), (3, .int x3)] [] 10) (p0 : Nat) (gp0 : hs_K p0 = 3) (p1 : Nat) (gp1 : hs_K p1 = 1) (x2 : Int32) (x3 : Int32) (S : hs_M) (h : fb_X3_putMoving_10 K10 p0 p1 x2 x3 S = some res) : hs_Z X 4 S [(0, .ref (hs_q X p0)), (1, .ref (hs_q X p1)), (2, .int x2), (3, .int x3)] [] 10 := by
  unfold fb_X3_putMoving_10 at h
  refine hs_iload_n C dX3_putMoving_10 3 rfl rfl ?_
  refine hs_bipush (v := 11) C dX3_putMoving_11 (by decide) ?_
  refine hs_icmp_ge (tgt := 31) C dX3_putMoving_13 (by decide) h (fun h => ?_) (fun h => ?_)
  · skip
    refine hs_aload_n C dX3_putMoving_31 0 rfl rfl ?_
    refine hs_iload_n C dX3_putMoving_32 2 rfl rfl ?_
    obtain ⟨S_1, hc_2, h⟩ := hs_b1_s h
    refine cs_X3_31 C gp0 (m_X3_put p0 gp0 x2 S hc_2) (by decide) (Nat.le_of_ble_eq_true rfl) dX3_putMoving_33 ?_
    exact hs_vret C hf h dX3_putMoving_36
  · skip
    refine hs_aload_n C dX3_putMoving_16 0 rfl rfl ?_
    refine hs_aload_n C dX3_putMoving_17 1 rfl rfl ?_
    refine hs_iload_n C dX3_putMoving_18 3 rfl rfl ?_
    obtain ⟨r_5, S_3, hc_4, h⟩ := hs_b2_s h
    refine cs_X3_56 C gp1 (m_X1_part p1 gp1 x3 S hc_4) (by decide) (Nat.le_of_ble_eq_true rfl) dX3_putMoving_19 ?_
    obtain ⟨S_6, hc_7, h⟩ := hs_b1_s h
    refine cs_X3_31 C gp0 (m_X3_put p0 gp0 r_5 S_3 hc_7) (by decide) (Nat.le_of_ble_eq_true rfl) dX3_putMoving_22 ?_
    refine hs_iinc' (1 : Int32) C dX3_putMoving_25 3 rfl (by decide) (by decide) h (fun x_8 h => ?_)
    show hs_Z X _ _ [(3, .int x_8), (0, .ref (hs_q X p0)), (1, .ref (hs_q X p1)), (2, .int x2)] _ _
    refine hs_goto (tgt := 10) C dX3_putMoving_28 (by decide) ?_
    refine hs_sub [1, 2, 3, 0] rfl ?_
    exact hK10 p0 gp0 p1 gp1 x2 x_8 S_6 h
theorem t_X3_putMoving_10l {X : hs_T} (C : hs_C X 0 RX3 cX3_putMoving 4 2) {res : hs_M} (hf : hs_FV X cX3_putMoving res)  : ∀ (n : Nat) (p0 : Nat) (gp0 : hs_K p0 = 3) (p1 : Nat) (gp1 : hs_K p1 = 1) (x2 : Int32) (x3 : Int32) (S : hs_M), f_X3_putMoving_10  n p0 p1 x2 x3 S = some res → hs_Z X 4 S [(0, .ref (hs_q X p0)), (1, .ref (hs_q X p1)), (2, .int x2), (3, .int x3)] [] 10 := by
  intro n
  induction n with
  | zero =>
    intro p0 gp0 p1 gp1 x2 x3 S h
    cases h
  | succ n ih =>
    intro p0 gp0 p1 gp1 x2 x3 S h
    exact t_X3_putMoving_10 C hf  (f_X3_putMoving_10  n) ih p0 gp0 p1 gp1 x2 x3 S h
set_option maxRecDepth 100000 in
set_option maxHeartbeats 4000000 in
theorem t_X3_putMoving_0 {X : hs_T} (C : hs_C X 0 RX3 cX3_putMoving 4 2) {res : hs_M} (hf : hs_FV X cX3_putMoving res) (p0 : Nat) (gp0 : hs_K p0 = 3) (p1 : Nat) (gp1 : hs_K p1 = 1) (x2 : Int32) (S : hs_M) (h : f_X3_putMoving_0 p0 p1 x2 S = some res) : hs_Z X 4 S [(0, .ref (hs_q X p0)), (1, .ref (hs_q X p1)), (2, .int x2)] [] 0 := by
  unfold f_X3_putMoving_0 at h
  refine hs_aload_n C dX3_putMoving_0 0 rfl rfl ?_
  refine hs_aload_n C dX3_putMoving_1 1 rfl rfl ?_
  obtain ⟨r_3, S_1, hc_2, h⟩ := hs_b2_s h
  refine cs_X3_35 C gp1 (m_X1_markBit p1 gp1 S hc_2) (by decide) (Nat.le_of_ble_eq_true rfl) dX3_putMoving_2 ?_
  obtain ⟨S_4, hc_5, h⟩ := hs_b1_s h
  refine cs_X3_31 C gp0 (m_X3_put p0 gp0 r_3 S_1 hc_5) (by decide) (Nat.le_of_ble_eq_true rfl) dX3_putMoving_5 ?_
  refine hs_iconst (v := 3) C dX3_putMoving_8 (by decide) ?_
  refine hs_istore_n (lv' := [(3, .int (3 : Int32)), (0, .ref (hs_q X p0)), (1, .ref (hs_q X p1)), (2, .int x2)]) C dX3_putMoving_9 rfl (by decide) rfl ?_
  refine hs_sub [1, 2, 3, 0] rfl ?_
  exact t_X3_putMoving_10l C hf  hs_fuel p0 gp0 p1 gp1 x2 (3 : Int32) S_4 h
theorem m_X3_putMoving (i0 : Nat) (gi0 : hs_K i0 = 3) (i1 : Nat) (gi1 : hs_K i1 = 1) (a2 : Int32) (S : hs_M) {S' : hs_M} (h : f_X3_putMoving i0 i1 a2 S = some S') : hs_met 0 yX3_putMoving cX3_putMoving 4 none 2 (fun q => [.ref (q i0), .ref (q i1), .int a2]) S (fun q => none) S' :=
  hs_mkV (res := S') (by decide +kernel) (by decide) (fun q => Nat.le_of_ble_eq_true rfl) fun X C hf => (t_X3_putMoving_0 C hf i0 gi0 i1 gi1 a2 S h)
set_option maxRecDepth 100000 in
set_option maxHeartbeats 4000000 in
theorem t_X3_putTwo_0 {X : hs_T} (C : hs_C X 0 RX3 cX3_putTwo 2 1) {res : hs_M} (hf : hs_FV X cX3_putTwo res) (p0 : Nat) (gp0 : hs_K p0 = 3) (x1 : Int32) (S : hs_M) (h : f_X3_putTwo_0 p0 x1 S = some res) : hs_Z X 2 S [(0, .ref (hs_q X p0)), (1, .int x1)] [] 0 := by
  unfold f_X3_putTwo_0 at h
  refine hs_aload_n C dX3_putTwo_0 0 rfl rfl ?_
  refine hs_iload_n C dX3_putTwo_1 1 rfl rfl ?_
  refine hs_bipush (v := 8) C dX3_putTwo_2 (by decide) ?_
  refine hs_iushr C dX3_putTwo_4 ?_
  obtain ⟨S_1, hc_2, h⟩ := hs_b1_s h
  refine cs_X3_31 C gp0 (m_X3_put p0 gp0 (hs_ushr x1 (8 : Int32)) S hc_2) (by decide) (Nat.le_of_ble_eq_true rfl) dX3_putTwo_5 ?_
  refine hs_aload_n C dX3_putTwo_8 0 rfl rfl ?_
  refine hs_iload_n C dX3_putTwo_9 1 rfl rfl ?_
  refine hs_sipush (v := 255) C dX3_putTwo_10 (by decide) ?_
  refine hs_iand C dX3_putTwo_13 ?_
  obtain ⟨S_3, hc_4, h⟩ := hs_b1_s h
  refine cs_X3_31 C gp0 (m_X3_put p0 gp0 (x1 &&& (255 : Int32)) S_1 hc_4) (by decide) (Nat.le_of_ble_eq_true rfl) dX3_putTwo_14 ?_
  exact hs_vret C hf h dX3_putTwo_17
theorem m_X3_putTwo (i0 : Nat) (gi0 : hs_K i0 = 3) (a1 : Int32) (S : hs_M) {S' : hs_M} (h : f_X3_putTwo i0 a1 S = some S') : hs_met 0 yX3_putTwo cX3_putTwo 2 none 1 (fun q => [.ref (q i0), .int a1]) S (fun q => none) S' :=
  hs_mkV (res := S') (by decide +kernel) (by decide) (fun q => Nat.le_of_ble_eq_true rfl) fun X C hf => (t_X3_putTwo_0 C hf i0 gi0 a1 S h)
set_option maxRecDepth 100000 in
set_option maxHeartbeats 4000000 in
theorem t_X3_read_116 {X : hs_T} (C : hs_C X 0 RX3 cX3_read 2 2) {res : hs_M} (hf : hs_FV X cX3_read res) (S : hs_M) (h : f_X3_read_116  S = some res) : hs_Z X 2 S [] [] 116 := by
  unfold f_X3_read_116 at h
  exact hs_vret C hf h dX3_read_116
set_option maxRecDepth 100000 in
set_option maxHeartbeats 4000000 in
theorem t_X3_read_93 {X : hs_T} (C : hs_C X 0 RX3 cX3_read 2 2) {res : hs_M} (hf : hs_FV X cX3_read res) (p0 : Nat) (gp0 : hs_K p0 = 3) (q0 : Nat) (gq0 : hs_K q0 = 3) (y1 : Int32) (S : hs_M) (h : f_X3_read_93 p0 q0 y1 S = some res) : hs_Z X 2 S [(0, .ref (hs_q X p0))] [.int y1, .ref (hs_q X q0)] 93 := by
  unfold f_X3_read_93 at h
  refine pf_X3_69 C gq0 h dX3_read_93 (fun S_1 h => ?_)
  refine hs_aload_n C dX3_read_96 0 rfl rfl ?_
  refine gf_X3_69 C gp0 dX3_read_97 ?_
  refine hs_iconst (v := (-1)) C dX3_read_100 (by decide) ?_
  refine hs_icmp_eq (tgt := 116) C dX3_read_101 (by decide) h (fun h => ?_) (fun h => ?_)
  · skip
    refine hs_sub [] rfl ?_
    exact t_X3_read_116 C hf   S_1 h
  · skip
    refine hs_aload_n C dX3_read_104 0 rfl rfl ?_
    obtain ⟨r_4, S_2, hc_3, h⟩ := hs_b2_s h
    refine cs_X3_72 C gp0 (m_X3_isMisshapen p0 gp0 S_1 hc_3) (by decide) (Nat.le_of_ble_eq_true rfl) dX3_read_105 ?_
    refine hs_if_eq (tgt := 116) C dX3_read_108 (by decide) h (fun h => ?_) (fun h => ?_)
    · skip
      refine hs_sub [] rfl ?_
      exact t_X3_read_116 C hf   S_2 h
    · skip
      refine hs_aload_n C dX3_read_111 0 rfl rfl ?_
      refine hs_iconst (v := (-1)) C dX3_read_112 (by decide) ?_
      refine pf_X3_69 C gp0 h dX3_read_113 (fun S_5 h => ?_)
      refine hs_sub [] rfl ?_
      exact t_X3_read_116 C hf   S_5 h
set_option maxRecDepth 100000 in
set_option maxHeartbeats 4000000 in
theorem t_X3_read_62 {X : hs_T} (C : hs_C X 0 RX3 cX3_read 2 2) {res : hs_M} (hf : hs_FV X cX3_read res) (p0 : Nat) (gp0 : hs_K p0 = 3) (q0 : Nat) (gq0 : hs_K q0 = 3) (y1 : Int32) (S : hs_M) (h : f_X3_read_62 p0 q0 y1 S = some res) : hs_Z X 2 S [(0, .ref (hs_q X p0))] [.int y1, .ref (hs_q X q0)] 62 := by
  unfold f_X3_read_62 at h
  refine pf_X3_63 C gq0 h dX3_read_62 (fun S_1 h => ?_)
  refine hs_aload_n C dX3_read_65 0 rfl rfl ?_
  refine hs_aload_n C dX3_read_66 0 rfl rfl ?_
  refine gf_X3_63 C gp0 dX3_read_67 ?_
  refine hs_aload_n C dX3_read_70 0 rfl rfl ?_
  refine gf_X3_28 C gp0 dX3_read_71 ?_
  refine hs_icmp_ge (tgt := 92) C dX3_read_74 (by decide) h (fun h => ?_) (fun h => ?_)
  · skip
    refine hs_iconst (v := (-1)) C dX3_read_92 (by decide) ?_
    exact t_X3_read_93 C hf  p0 gp0 p0 gp0 (-1 : Int32) S_1 h
  · skip
    refine hs_aload_n C dX3_read_77 0 rfl rfl ?_
    refine gf_X3_9 C gp0 dX3_read_78 ?_
    refine hs_aload_n C dX3_read_81 0 rfl rfl ?_
    refine gf_X3_63 C gp0 dX3_read_82 ?_
    refine hs_top h (fun x_2 h => ?_)
    refine hs_ald (kd := 8) C (Or.inl rfl) rfl (hs_k30 gp0) h dX3_read_85 (fun h => ?_)
    obtain ⟨r_5, S_3, hc_4, h⟩ := hs_b2_s h
    refine cs_X3_66 C (m_X3_kindTold (S_1 (p0 + 9) x_2.toNatClampNeg) S_1 hc_4) (by decide) (Nat.le_of_ble_eq_true rfl) dX3_read_86 ?_
    refine hs_goto (tgt := 93) C dX3_read_89 (by decide) ?_
    exact t_X3_read_93 C hf  p0 gp0 p0 gp0 r_5 S_3 h
set_option maxRecDepth 100000 in
set_option maxHeartbeats 4000000 in
theorem t_X3_read_49 {X : hs_T} (C : hs_C X 0 RX3 cX3_read 2 2) {res : hs_M} (hf : hs_FV X cX3_read res) (p0 : Nat) (gp0 : hs_K p0 = 3) (x1 : Int32) (q0 : Nat) (gq0 : hs_K q0 = 3) (y1 : Int32) (S : hs_M) (h : f_X3_read_49 p0 x1 q0 y1 S = some res) : hs_Z X 2 S [(0, .ref (hs_q X p0)), (1, .int x1)] [.int y1, .ref (hs_q X q0)] 49 := by
  unfold f_X3_read_49 at h
  refine pf_X3_60 C gq0 h dX3_read_49 (fun S_1 h => ?_)
  refine hs_aload_n C dX3_read_52 0 rfl rfl ?_
  refine hs_iload_n C dX3_read_53 1 rfl rfl ?_
  refine hs_if_eq (tgt := 61) C dX3_read_54 (by decide) h (fun h => ?_) (fun h => ?_)
  · skip
    refine hs_iconst (v := 0) C dX3_read_61 (by decide) ?_
    refine hs_sub [0] rfl ?_
    exact t_X3_read_62 C hf  p0 gp0 p0 gp0 (0 : Int32) S_1 h
  · skip
    refine hs_iconst (v := 1) C dX3_read_57 (by decide) ?_
    refine hs_goto (tgt := 62) C dX3_read_58 (by decide) ?_
    refine hs_sub [0] rfl ?_
    exact t_X3_read_62 C hf  p0 gp0 p0 gp0 (1 : Int32) S_1 h
set_option maxRecDepth 100000 in
set_option maxHeartbeats 4000000 in
theorem t_X3_read_29 {X : hs_T} (C : hs_C X 0 RX3 cX3_read 2 2) {res : hs_M} (hf : hs_FV X cX3_read res) (p0 : Nat) (gp0 : hs_K p0 = 3) (y0 : Int32) (S : hs_M) (h : f_X3_read_29 p0 y0 S = some res) : hs_Z X 2 S [(0, .ref (hs_q X p0))] [.int y0] 29 := by
  unfold f_X3_read_29 at h
  refine hs_istore_n (lv' := [(1, .int y0), (0, .ref (hs_q X p0))]) C dX3_read_29 rfl (by decide) rfl ?_
  refine hs_aload_n C dX3_read_30 1 rfl rfl ?_
  refine hs_iload_n C dX3_read_31 0 rfl rfl ?_
  refine hs_if_eq (tgt := 48) C dX3_read_32 (by decide) h (fun h => ?_) (fun h => ?_)
  · skip
    refine hs_iconst (v := 0) C dX3_read_48 (by decide) ?_
    refine hs_sub [1, 0] rfl ?_
    exact t_X3_read_49 C hf  p0 gp0 y0 p0 gp0 (0 : Int32) S h
  · skip
    refine hs_aload_n C dX3_read_35 1 rfl rfl ?_
    refine gf_X3_9 C gp0 dX3_read_36 ?_
    refine hs_iconst (v := 0) C dX3_read_39 (by decide) ?_
    refine hs_ald (kd := 8) C (Or.inl rfl) rfl (hs_k30 gp0) h dX3_read_40 (fun h => ?_)
    refine hs_sipush (v := 224) C dX3_read_41 (by decide) ?_
    refine hs_isub C dX3_read_44 ?_
    refine hs_goto (tgt := 49) C dX3_read_45 (by decide) ?_
    refine hs_sub [1, 0] rfl ?_
    exact t_X3_read_49 C hf  p0 gp0 y0 p0 gp0 ((S (p0 + 9) (0 : Int32).toNatClampNeg) - (224 : Int32)) S h
set_option maxRecDepth 100000 in
set_option maxHeartbeats 4000000 in
theorem t_X3_read_28 {X : hs_T} (C : hs_C X 0 RX3 cX3_read 2 2) {res : hs_M} (hf : hs_FV X cX3_read res) (p0 : Nat) (gp0 : hs_K p0 = 3) (S : hs_M) (h : f_X3_read_28 p0 S = some res) : hs_Z X 2 S [(0, .ref (hs_q X p0))] [] 28 := by
  unfold f_X3_read_28 at h
  refine hs_iconst (v := 0) C dX3_read_28 (by decide) ?_
  exact t_X3_read_29 C hf  p0 gp0 (0 : Int32) S h
set_option maxRecDepth 100000 in
set_option maxHeartbeats 4000000 in
theorem t_X3_read_0 {X : hs_T} (C : hs_C X 0 RX3 cX3_read 2 2) {res : hs_M} (hf : hs_FV X cX3_read res) (p0 : Nat) (gp0 : hs_K p0 = 3) (S : hs_M) (h : f_X3_read_0 p0 S = some res) : hs_Z X 2 S [(0, .ref (hs_q X p0))] [] 0 := by
  unfold f_X3_read_0 at h
  refine hs_aload_n C dX3_read_0 0 rfl rfl ?_
  refine gf_X3_9 C gp0 dX3_read_1 ?_
  refine hs_iconst (v := 0) C dX3_read_4 (by decide) ?_
  refine hs_ald (kd := 8) C (Or.inl rfl) rfl (hs_k30 gp0) h dX3_read_5 (fun h => ?_)
  refine hs_sipush (v := 224) C dX3_read_6 (by decide) ?_
  refine hs_icmp_le (tgt := 28) C dX3_read_9 (by decide) h (fun h => ?_) (fun h => ?_)
  · skip
    exact t_X3_read_28 C hf  p0 gp0 S h
  · skip
    refine hs_aload_n C dX3_read_12 0 rfl rfl ?_
    refine gf_X3_9 C gp0 dX3_read_13 ?_
    refine hs_iconst (v := 0) C dX3_read_16 (by decide) ?_
    refine hs_ald (kd := 8) C (Or.inl rfl) rfl (hs_k30 gp0) h dX3_read_17 (fun h => ?_)
    refine hs_sipush (v := 228) C dX3_read_18 (by decide) ?_
    refine hs_icmp_ge (tgt := 28) C dX3_read_21 (by decide) h (fun h => ?_) (fun h => ?_)
    · skip
      exact t_X3_read_28 C hf  p0 gp0 S h
    · skip
      refine hs_iconst (v := 1) C dX3_read_24 (by decide) ?_
      refine hs_goto (tgt := 29) C dX3_read_25 (by decide) ?_
      exact t_X3_read_29 C hf  p0 gp0 (1 : Int32) S h
theorem m_X3_read (i0 : Nat) (gi0 : hs_K i0 = 3) (S : hs_M) {S' : hs_M} (h : f_X3_read i0 S = some S') : hs_met 0 yX3_read cX3_read 2 none 2 (fun q => [.ref (q i0)]) S (fun q => none) S' :=
  hs_mkV (res := S') (by decide +kernel) (by decide) (fun q => Nat.le_of_ble_eq_true rfl) fun X C hf => (t_X3_read_0 C hf i0 gi0 S h)
set_option maxRecDepth 100000 in
set_option maxHeartbeats 4000000 in
theorem t_X3_readFixed_0 {X : hs_T} (C : hs_C X 0 RX3 cX3_readFixed 2 2) {res : hs_M} (hf : hs_FV X cX3_readFixed res) (p0 : Nat) (gp0 : hs_K p0 = 3) (p1 : Nat) (gp1 : hs_K p1 = 1) (S : hs_M) (h : f_X3_readFixed_0 p0 p1 S = some res) : hs_Z X 2 S [(0, .ref (hs_q X p0)), (1, .ref (hs_q X p1))] [] 0 := by
  unfold f_X3_readFixed_0 at h
  refine hs_aload_n C dX3_readFixed_0 1 rfl rfl ?_
  refine hs_aload_n C dX3_readFixed_1 0 rfl rfl ?_
  refine hs_iconst (v := 1) C dX3_readFixed_2 (by decide) ?_
  obtain ⟨r_3, S_1, hc_2, h⟩ := hs_b2_s h
  refine cs_X3_89 C gp0 (m_X3_ownTwo p0 gp0 (1 : Int32) S hc_2) (by decide) (Nat.le_of_ble_eq_true rfl) dX3_readFixed_3 ?_
  refine pf_X3_47 C gp1 h dX3_readFixed_6 (fun S_4 h => ?_)
  refine hs_aload_n C dX3_readFixed_9 1 rfl rfl ?_
  refine hs_aload_n C dX3_readFixed_10 0 rfl rfl ?_
  refine hs_iconst (v := 3) C dX3_readFixed_11 (by decide) ?_
  obtain ⟨r_7, S_5, hc_6, h⟩ := hs_b2_s h
  refine cs_X3_79 C gp0 (m_X3_own p0 gp0 (3 : Int32) S_4 hc_6) (by decide) (Nat.le_of_ble_eq_true rfl) dX3_readFixed_12 ?_
  refine pf_X3_53 C gp1 h dX3_readFixed_15 (fun S_8 h => ?_)
  exact hs_vret C hf h dX3_readFixed_18
theorem m_X3_readFixed (i0 : Nat) (gi0 : hs_K i0 = 3) (i1 : Nat) (gi1 : hs_K i1 = 1) (S : hs_M) {S' : hs_M} (h : f_X3_readFixed i0 i1 S = some S') : hs_met 0 yX3_readFixed cX3_readFixed 2 none 2 (fun q => [.ref (q i0), .ref (q i1)]) S (fun q => none) S' :=
  hs_mkV (res := S') (by decide +kernel) (by decide) (fun q => Nat.le_of_ble_eq_true rfl) fun X C hf => (t_X3_readFixed_0 C hf i0 gi0 i1 gi1 S h)
set_option maxRecDepth 100000 in
set_option maxHeartbeats 4000000 in
theorem t_X3_readMoving_29 {X : hs_T} (C : hs_C X 0 RX3 cX3_readMoving 3 2) {res : hs_M} (hf : hs_FV X cX3_readMoving res) (p0 : Nat) (gp0 : hs_K p0 = 3) (p1 : Nat) (gp1 : hs_K p1 = 1) (x2 : Int32) (q0 : Nat) (gq0 : hs_K q0 = 1) (y1 : Int32) (S : hs_M) (h : f_X3_readMoving_29 p0 p1 x2 q0 y1 S = some res) : hs_Z X 3 S [(0, .ref (hs_q X p0)), (1, .ref (hs_q X p1)), (2, .int x2)] [.int y1, .ref (hs_q X q0)] 29 := by
  unfold f_X3_readMoving_29 at h
  refine pf_X3_39 C gq0 h dX3_readMoving_29 (fun S_1 h => ?_)
  refine hs_aload_n C dX3_readMoving_32 1 rfl rfl ?_
  refine hs_aload_n C dX3_readMoving_33 0 rfl rfl ?_
  refine hs_iload_n C dX3_readMoving_34 2 rfl rfl ?_
  refine hs_iconst (v := 1) C dX3_readMoving_35 (by decide) ?_
  refine hs_iadd C dX3_readMoving_36 ?_
  obtain ⟨r_4, S_2, hc_3, h⟩ := hs_b2_s h
  refine cs_X3_89 C gp0 (m_X3_ownTwo p0 gp0 (x2 + (1 : Int32)) S_1 hc_3) (by decide) (Nat.le_of_ble_eq_true rfl) dX3_readMoving_37 ?_
  refine pf_X3_21 C gp1 h dX3_readMoving_40 (fun S_5 h => ?_)
  refine hs_aload_n C dX3_readMoving_43 1 rfl rfl ?_
  refine hs_aload_n C dX3_readMoving_44 0 rfl rfl ?_
  refine hs_iload_n C dX3_readMoving_45 2 rfl rfl ?_
  refine hs_iconst (v := 3) C dX3_readMoving_46 (by decide) ?_
  refine hs_iadd C dX3_readMoving_47 ?_
  obtain ⟨r_8, S_6, hc_7, h⟩ := hs_b2_s h
  refine cs_X3_89 C gp0 (m_X3_ownTwo p0 gp0 (x2 + (3 : Int32)) S_5 hc_7) (by decide) (Nat.le_of_ble_eq_true rfl) dX3_readMoving_48 ?_
  refine hs_ldc C ww_76 dX3_readMoving_51 ?_
  refine hs_imul C dX3_readMoving_53 ?_
  refine hs_aload_n C dX3_readMoving_54 0 rfl rfl ?_
  refine hs_iload_n C dX3_readMoving_55 2 rfl rfl ?_
  refine hs_iconst (v := 5) C dX3_readMoving_56 (by decide) ?_
  refine hs_iadd C dX3_readMoving_57 ?_
  obtain ⟨r_11, S_9, hc_10, h⟩ := hs_b2_s h
  refine cs_X3_89 C gp0 (m_X3_ownTwo p0 gp0 (x2 + (5 : Int32)) S_6 hc_10) (by decide) (Nat.le_of_ble_eq_true rfl) dX3_readMoving_58 ?_
  refine hs_iadd C dX3_readMoving_61 ?_
  refine pf_X3_93 C gp1 h dX3_readMoving_62 (fun S_12 h => ?_)
  refine hs_aload_n C dX3_readMoving_65 1 rfl rfl ?_
  refine hs_aload_n C dX3_readMoving_66 0 rfl rfl ?_
  refine hs_iload_n C dX3_readMoving_67 2 rfl rfl ?_
  refine hs_bipush (v := 7) C dX3_readMoving_68 (by decide) ?_
  refine hs_iadd C dX3_readMoving_70 ?_
  obtain ⟨r_15, S_13, hc_14, h⟩ := hs_b2_s h
  refine cs_X3_89 C gp0 (m_X3_ownTwo p0 gp0 (x2 + (7 : Int32)) S_12 hc_14) (by decide) (Nat.le_of_ble_eq_true rfl) dX3_readMoving_71 ?_
  refine pf_X3_96 C gp1 h dX3_readMoving_74 (fun S_16 h => ?_)
  exact hs_vret C hf h dX3_readMoving_77
set_option maxRecDepth 100000 in
set_option maxHeartbeats 4000000 in
theorem t_X3_readMoving_14 {X : hs_T} (C : hs_C X 0 RX3 cX3_readMoving 3 2) {res : hs_M} (hf : hs_FV X cX3_readMoving res) (p0 : Nat) (gp0 : hs_K p0 = 3) (p1 : Nat) (gp1 : hs_K p1 = 1) (y0 : Int32) (S : hs_M) (h : f_X3_readMoving_14 p0 p1 y0 S = some res) : hs_Z X 3 S [(0, .ref (hs_q X p0)), (1, .ref (hs_q X p1))] [.int y0] 14 := by
  unfold f_X3_readMoving_14 at h
  refine hs_istore_n (lv' := [(2, .int y0), (0, .ref (hs_q X p0)), (1, .ref (hs_q X p1))]) C dX3_readMoving_14 rfl (by decide) rfl ?_
  refine hs_aload_n C dX3_readMoving_15 2 rfl rfl ?_
  refine hs_aload_n C dX3_readMoving_16 1 rfl rfl ?_
  refine hs_iload_n C dX3_readMoving_17 0 rfl rfl ?_
  obtain ⟨r_3, S_1, hc_2, h⟩ := hs_b2_s h
  refine cs_X3_79 C gp0 (m_X3_own p0 gp0 y0 S hc_2) (by decide) (Nat.le_of_ble_eq_true rfl) dX3_readMoving_18 ?_
  refine hs_if_eq (tgt := 28) C dX3_readMoving_21 (by decide) h (fun h => ?_) (fun h => ?_)
  · skip
    refine hs_iconst (v := 0) C dX3_readMoving_28 (by decide) ?_
    refine hs_sub [1, 2, 0] rfl ?_
    exact t_X3_readMoving_29 C hf  p0 gp0 p1 gp1 y0 p1 gp1 (0 : Int32) S_1 h
  · skip
    refine hs_iconst (v := 1) C dX3_readMoving_24 (by decide) ?_
    refine hs_goto (tgt := 29) C dX3_readMoving_25 (by decide) ?_
    refine hs_sub [1, 2, 0] rfl ?_
    exact t_X3_readMoving_29 C hf  p0 gp0 p1 gp1 y0 p1 gp1 (1 : Int32) S_1 h
set_option maxRecDepth 100000 in
set_option maxHeartbeats 4000000 in
theorem t_X3_readMoving_0 {X : hs_T} (C : hs_C X 0 RX3 cX3_readMoving 3 2) {res : hs_M} (hf : hs_FV X cX3_readMoving res) (p0 : Nat) (gp0 : hs_K p0 = 3) (p1 : Nat) (gp1 : hs_K p1 = 1) (S : hs_M) (h : f_X3_readMoving_0 p0 p1 S = some res) : hs_Z X 3 S [(0, .ref (hs_q X p0)), (1, .ref (hs_q X p1))] [] 0 := by
  unfold f_X3_readMoving_0 at h
  refine hs_aload_n C dX3_readMoving_0 0 rfl rfl ?_
  refine gf_X3_69 C gp0 dX3_readMoving_1 ?_
  refine hs_iconst (v := 4) C dX3_readMoving_4 (by decide) ?_
  refine hs_icmp_ne (tgt := 13) C dX3_readMoving_5 (by decide) h (fun h => ?_) (fun h => ?_)
  · skip
    refine hs_iconst (v := 1) C dX3_readMoving_13 (by decide) ?_
    exact t_X3_readMoving_14 C hf  p0 gp0 p1 gp1 (1 : Int32) S h
  · skip
    refine hs_bipush (v := 6) C dX3_readMoving_8 (by decide) ?_
    refine hs_goto (tgt := 14) C dX3_readMoving_10 (by decide) ?_
    exact t_X3_readMoving_14 C hf  p0 gp0 p1 gp1 (6 : Int32) S h
theorem m_X3_readMoving (i0 : Nat) (gi0 : hs_K i0 = 3) (i1 : Nat) (gi1 : hs_K i1 = 1) (S : hs_M) {S' : hs_M} (h : f_X3_readMoving i0 i1 S = some S') : hs_met 0 yX3_readMoving cX3_readMoving 3 none 2 (fun q => [.ref (q i0), .ref (q i1)]) S (fun q => none) S' :=
  hs_mkV (res := S') (by decide +kernel) (by decide) (fun q => Nat.le_of_ble_eq_true rfl) fun X C hf => (t_X3_readMoving_0 C hf i0 gi0 i1 gi1 S h)
set_option maxRecDepth 100000 in
set_option maxHeartbeats 4000000 in
theorem t_X3_strideTold_0 {X : hs_T} (C : hs_C X 0 RX3 cX3_strideTold 1 2) {res : Int32 × hs_M} (hf : hs_FI X cX3_strideTold res) (p0 : Nat) (gp0 : hs_K p0 = 3) (S : hs_M) (h : f_X3_strideTold_0 p0 S = some res) : hs_Z X 1 S [(0, .ref (hs_q X p0))] [] 0 := by
  unfold f_X3_strideTold_0 at h
  refine hs_aload_n C dX3_strideTold_0 0 rfl rfl ?_
  refine hs_iconst (v := 4) C dX3_strideTold_1 (by decide) ?_
  obtain ⟨r_3, S_1, hc_2, h⟩ := hs_b2_s h
  refine cs_X3_89 C gp0 (m_X3_ownTwo p0 gp0 (4 : Int32) S hc_2) (by decide) (Nat.le_of_ble_eq_true rfl) dX3_strideTold_2 ?_
  exact hs_ireti C hf h dX3_strideTold_5
theorem m_X3_strideTold (i0 : Nat) (gi0 : hs_K i0 = 3) (S : hs_M) {r : Int32} {S' : hs_M} (h : f_X3_strideTold i0 S = some (r, S')) : hs_met 0 yX3_strideTold cX3_strideTold 1 (some .int) 2 (fun q => [.ref (q i0)]) S (fun q => some (.int r)) S' :=
  hs_mkI (res := (r, S')) (by decide +kernel) (by decide) (fun q => Nat.le_of_ble_eq_true rfl) fun X C hf => (t_X3_strideTold_0 C hf i0 gi0 S h)
set_option maxRecDepth 100000 in
set_option maxHeartbeats 4000000 in
theorem t_X3_sumTold_0 {X : hs_T} (C : hs_C X 0 RX3 cX3_sumTold 1 0) {res : Int32 × hs_M} (hf : hs_FI X cX3_sumTold res) (p0 : Nat) (gp0 : hs_K p0 = 3) (S : hs_M) (h : f_X3_sumTold_0 p0 S = some res) : hs_Z X 1 S [(0, .ref (hs_q X p0))] [] 0 := by
  unfold f_X3_sumTold_0 at h
  refine hs_aload_n C dX3_sumTold_0 0 rfl rfl ?_
  refine gf_X3_9 C gp0 dX3_sumTold_1 ?_
  refine hs_aload_n C dX3_sumTold_4 0 rfl rfl ?_
  refine gf_X3_28 C gp0 dX3_sumTold_5 ?_
  refine hs_iconst (v := 1) C dX3_sumTold_8 (by decide) ?_
  refine hs_isub C dX3_sumTold_9 ?_
  refine hs_top h (fun x_1 h => ?_)
  refine hs_ald (kd := 8) C (Or.inl rfl) rfl (hs_k30 gp0) h dX3_sumTold_10 (fun h => ?_)
  refine hs_gets (j := 1) (nm := "SUM_AT_FIRST") C (by decide) rfl (by decide +kernel) dX3_sumTold_11 ?_
  refine hs_aload_n C dX3_sumTold_14 0 rfl rfl ?_
  refine gf_X3_69 C gp0 dX3_sumTold_15 ?_
  refine hs_top h (fun x_2 h => ?_)
  refine hs_sld C (by decide) h dX3_sumTold_18 (fun h => ?_)
  refine hs_iand C dX3_sumTold_19 ?_
  exact hs_ireti C hf h dX3_sumTold_20
theorem m_X3_sumTold (i0 : Nat) (gi0 : hs_K i0 = 3) (S : hs_M) {r : Int32} {S' : hs_M} (h : f_X3_sumTold i0 S = some (r, S')) : hs_met 0 yX3_sumTold cX3_sumTold 1 (some .int) 0 (fun q => [.ref (q i0)]) S (fun q => some (.int r)) S' :=
  hs_mkI (res := (r, S')) (by decide +kernel) (by decide) (fun q => Nat.le_of_ble_eq_true rfl) fun X C hf => (t_X3_sumTold_0 C hf i0 gi0 S h)
set_option maxRecDepth 100000 in
set_option maxHeartbeats 4000000 in
theorem t_X3_write_218 {X : hs_T} (C : hs_C X 0 RX3 cX3_write 7 3) {res : hs_M} (hf : hs_FV X cX3_write res) (S : hs_M) (h : f_X3_write_218  S = some res) : hs_Z X 7 S [] [] 218 := by
  unfold f_X3_write_218 at h
  exact hs_vret C hf h dX3_write_218
set_option maxRecDepth 100000 in
set_option maxHeartbeats 4000000 in
theorem t_X3_write_152 {X : hs_T} (C : hs_C X 0 RX3 cX3_write 7 3) {res : hs_M} (hf : hs_FV X cX3_write res) (p0 : Nat) (gp0 : hs_K p0 = 3) (x5 : Int32) (q0 : Nat) (gq0 : hs_K q0 = 3) (y1 : Int32) (y2 : Int32) (S : hs_M) (h : f_X3_write_152 p0 x5 q0 y1 y2 S = some res) : hs_Z X 7 S [(0, .ref (hs_q X p0)), (5, .int x5)] [.int y2, .int y1, .ref (hs_q X q0)] 152 := by
  unfold f_X3_write_152 at h
  refine hs_iadd C dX3_write_152 ?_
  obtain ⟨S_1, hc_2, h⟩ := hs_b1_s h
  refine cs_X3_31 C gq0 (m_X3_put q0 gq0 (y1 + y2) S hc_2) (by decide) (Nat.le_of_ble_eq_true rfl) dX3_write_153 ?_
  refine hs_aload_n C dX3_write_156 0 rfl rfl ?_
  refine hs_iload C dX3_write_157 1 rfl ?_
  obtain ⟨S_3, hc_4, h⟩ := hs_b1_s h
  refine cs_X3_31 C gp0 (m_X3_put p0 gp0 x5 S_1 hc_4) (by decide) (Nat.le_of_ble_eq_true rfl) dX3_write_159 ?_
  refine hs_goto (tgt := 218) C dX3_write_162 (by decide) ?_
  refine hs_sub [] rfl ?_
  exact t_X3_write_218 C hf   S_3 h
set_option maxRecDepth 100000 in
set_option maxHeartbeats 4000000 in
theorem t_X3_write_48 {X : hs_T} (C : hs_C X 0 RX3 cX3_write 7 3) {res : hs_M} (hf : hs_FV X cX3_write res) (p0 : Nat) (gp0 : hs_K p0 = 3) (x2 : Int32) (p3 : Nat) (gp3 : hs_K p3 = 1) (x4 : Int32) (x5 : Int32) (x6 : Int32) (S : hs_M) (h : f_X3_write_48 p0 x2 p3 x4 x5 x6 S = some res) : hs_Z X 7 S [(0, .ref (hs_q X p0)), (2, .int x2), (3, .ref (hs_q X p3)), (4, .int x4), (5, .int x5), (6, .int x6)] [] 48 := by
  unfold f_X3_write_48 at h
  refine hs_iload_n C dX3_write_48 1 rfl rfl ?_
  rcases hs_if_s h with ⟨c_1, h⟩ | ⟨c_1, h⟩
  · skip
    refine hs_tableIn (off := 31) (tgt := 80) C dX3_write_49 (by rw [c_1]; decide) (by rw [c_1]; decide) (by rw [c_1]; rfl) (by decide) ?_
    refine hs_aload_n C dX3_write_80 0 rfl rfl ?_
    refine hs_iload C dX3_write_81 5 rfl ?_
    refine hs_bipush (v := 8) C dX3_write_83 (by decide) ?_
    refine hs_imul C dX3_write_85 ?_
    refine hs_iload C dX3_write_86 4 rfl ?_
    refine hs_iadd C dX3_write_88 ?_
    obtain ⟨S_2, hc_3, h⟩ := hs_b1_s h
    refine cs_X3_31 C gp0 (m_X3_put p0 gp0 ((x6 * (8 : Int32)) + x5) S hc_3) (by decide) (Nat.le_of_ble_eq_true rfl) dX3_write_89 ?_
    refine hs_goto (tgt := 218) C dX3_write_92 (by decide) ?_
    refine hs_sub [] rfl ?_
    exact t_X3_write_218 C hf   S_2 h
  · skip
    rcases hs_if_s h with ⟨c_4, h⟩ | ⟨c_4, h⟩
    · skip
      refine hs_tableIn (off := 46) (tgt := 95) C dX3_write_49 (by rw [c_4]; decide) (by rw [c_4]; decide) (by rw [c_4]; rfl) (by decide) ?_
      refine hs_aload_n C dX3_write_95 0 rfl rfl ?_
      refine hs_sipush (v := 128) C dX3_write_96 (by decide) ?_
      refine hs_iload C dX3_write_99 5 rfl ?_
      refine hs_iadd C dX3_write_101 ?_
      obtain ⟨S_5, hc_6, h⟩ := hs_b1_s h
      refine cs_X3_31 C gp0 (m_X3_put p0 gp0 ((128 : Int32) + x6) S hc_6) (by decide) (Nat.le_of_ble_eq_true rfl) dX3_write_102 ?_
      refine hs_aload_n C dX3_write_105 0 rfl rfl ?_
      refine hs_aload_n C dX3_write_106 2 rfl rfl ?_
      obtain ⟨r_9, S_7, hc_8, h⟩ := hs_b2_s h
      refine cs_X3_35 C gp3 (m_X1_markBit p3 gp3 S_5 hc_8) (by decide) (Nat.le_of_ble_eq_true rfl) dX3_write_107 ?_
      refine hs_iload C dX3_write_110 4 rfl ?_
      refine hs_iadd C dX3_write_112 ?_
      obtain ⟨S_10, hc_11, h⟩ := hs_b1_s h
      refine cs_X3_31 C gp0 (m_X3_put p0 gp0 (r_9 + x5) S_7 hc_11) (by decide) (Nat.le_of_ble_eq_true rfl) dX3_write_113 ?_
      refine hs_goto (tgt := 218) C dX3_write_116 (by decide) ?_
      refine hs_sub [] rfl ?_
      exact t_X3_write_218 C hf   S_10 h
    · skip
      rcases hs_if_s h with ⟨c_12, h⟩ | ⟨c_12, h⟩
      · skip
        refine hs_tableIn (off := 70) (tgt := 119) C dX3_write_49 (by rw [c_12]; decide) (by rw [c_12]; decide) (by rw [c_12]; rfl) (by decide) ?_
        refine hs_aload_n C dX3_write_119 0 rfl rfl ?_
        refine hs_sipush (v := 192) C dX3_write_120 (by decide) ?_
        refine hs_iload C dX3_write_123 5 rfl ?_
        refine hs_iconst (v := 5) C dX3_write_125 (by decide) ?_
        refine hs_iushr C dX3_write_126 ?_
        refine hs_iadd C dX3_write_127 ?_
        obtain ⟨S_13, hc_14, h⟩ := hs_b1_s h
        refine cs_X3_31 C gp0 (m_X3_put p0 gp0 ((192 : Int32) + (hs_ushr x6 (5 : Int32))) S hc_14) (by decide) (Nat.le_of_ble_eq_true rfl) dX3_write_128 ?_
        refine hs_aload_n C dX3_write_131 0 rfl rfl ?_
        refine hs_iload C dX3_write_132 5 rfl ?_
        refine hs_bipush (v := 31) C dX3_write_134 (by decide) ?_
        refine hs_iand C dX3_write_136 ?_
        refine hs_bipush (v := 8) C dX3_write_137 (by decide) ?_
        refine hs_imul C dX3_write_139 ?_
        refine hs_aload_n C dX3_write_140 2 rfl rfl ?_
        refine gf_X3_39 C gp3 dX3_write_141 ?_
        refine hs_if_eq (tgt := 151) C dX3_write_144 (by decide) h (fun h => ?_) (fun h => ?_)
        · skip
          refine hs_iconst (v := 0) C dX3_write_151 (by decide) ?_
          refine hs_sub [0, 4] rfl ?_
          exact t_X3_write_152 C hf  p0 gp0 x5 p0 gp0 ((x6 &&& (31 : Int32)) * (8 : Int32)) (0 : Int32) S_13 h
        · skip
          refine hs_iconst (v := 4) C dX3_write_147 (by decide) ?_
          refine hs_goto (tgt := 152) C dX3_write_148 (by decide) ?_
          refine hs_sub [0, 4] rfl ?_
          exact t_X3_write_152 C hf  p0 gp0 x5 p0 gp0 ((x6 &&& (31 : Int32)) * (8 : Int32)) (4 : Int32) S_13 h
      · skip
        rcases hs_if_s h with ⟨c_15, h⟩ | ⟨c_15, h⟩
        · skip
          refine hs_tableIn (off := 116) (tgt := 165) C dX3_write_49 (by rw [c_15]; decide) (by rw [c_15]; decide) (by rw [c_15]; rfl) (by decide) ?_
          refine hs_aload_n C dX3_write_165 0 rfl rfl ?_
          refine hs_sipush (v := 248) C dX3_write_166 (by decide) ?_
          obtain ⟨S_16, hc_17, h⟩ := hs_b1_s h
          refine cs_X3_31 C gp0 (m_X3_put p0 gp0 (248 : Int32) S hc_17) (by decide) (Nat.le_of_ble_eq_true rfl) dX3_write_169 ?_
          refine hs_aload_n C dX3_write_172 0 rfl rfl ?_
          refine hs_aload_n C dX3_write_173 2 rfl rfl ?_
          refine hs_iload C dX3_write_174 4 rfl ?_
          obtain ⟨S_18, hc_19, h⟩ := hs_b1_s h
          refine cs_X3_43 C gp0 (m_X3_putMoving p0 gp0 p3 gp3 x5 S_16 hc_19) (by decide) (Nat.le_of_ble_eq_true rfl) dX3_write_176 ?_
          refine hs_goto (tgt := 218) C dX3_write_179 (by decide) ?_
          refine hs_sub [] rfl ?_
          exact t_X3_write_218 C hf   S_18 h
        · skip
          refine hs_tableOut (tgt := 182) C dX3_write_49 (by have e0 := lv_neT (a := 0) c_1 (by decide); have e1 := lv_neT (a := 1) c_4 (by decide); have e2 := lv_neT (a := 2) c_12 (by decide); have e3 := lv_neT (a := 3) c_15 (by decide); omega) (by decide) ?_
          refine hs_aload_n C dX3_write_182 0 rfl rfl ?_
          refine hs_sipush (v := 253) C dX3_write_183 (by decide) ?_
          obtain ⟨S_20, hc_21, h⟩ := hs_b1_s h
          refine cs_X3_31 C gp0 (m_X3_put p0 gp0 (253 : Int32) S hc_21) (by decide) (Nat.le_of_ble_eq_true rfl) dX3_write_186 ?_
          refine hs_aload_n C dX3_write_189 0 rfl rfl ?_
          refine hs_aload_n C dX3_write_190 2 rfl rfl ?_
          refine gf_X3_47 C gp3 dX3_write_191 ?_
          obtain ⟨S_22, hc_23, h⟩ := hs_b1_s h
          refine cs_X3_50 C gp0 (m_X3_putTwo p0 gp0 (S_20 p3 0) S_20 hc_23) (by decide) (Nat.le_of_ble_eq_true rfl) dX3_write_194 ?_
          refine hs_aload_n C dX3_write_197 0 rfl rfl ?_
          refine hs_aload_n C dX3_write_198 2 rfl rfl ?_
          refine gf_X3_53 C gp3 dX3_write_199 ?_
          obtain ⟨S_24, hc_25, h⟩ := hs_b1_s h
          refine cs_X3_31 C gp0 (m_X3_put p0 gp0 (S_22 p3 1) S_22 hc_25) (by decide) (Nat.le_of_ble_eq_true rfl) dX3_write_202 ?_
          refine hs_aload_n C dX3_write_205 0 rfl rfl ?_
          refine hs_iload C dX3_write_206 3 rfl ?_
          obtain ⟨S_26, hc_27, h⟩ := hs_b1_s h
          refine cs_X3_50 C gp0 (m_X3_putTwo p0 gp0 x4 S_24 hc_27) (by decide) (Nat.le_of_ble_eq_true rfl) dX3_write_208 ?_
          refine hs_aload_n C dX3_write_211 0 rfl rfl ?_
          refine hs_aload_n C dX3_write_212 2 rfl rfl ?_
          refine hs_iload C dX3_write_213 4 rfl ?_
          obtain ⟨S_28, hc_29, h⟩ := hs_b1_s h
          refine cs_X3_43 C gp0 (m_X3_putMoving p0 gp0 p3 gp3 x5 S_26 hc_29) (by decide) (Nat.le_of_ble_eq_true rfl) dX3_write_215 ?_
          refine hs_sub [] rfl ?_
          exact t_X3_write_218 C hf   S_28 h
set_option maxRecDepth 100000 in
set_option maxHeartbeats 4000000 in
theorem t_X3_write_28 {X : hs_T} (C : hs_C X 0 RX3 cX3_write 7 3) {res : hs_M} (hf : hs_FV X cX3_write res) (p0 : Nat) (gp0 : hs_K p0 = 3) (x1 : Int32) (x2 : Int32) (p3 : Nat) (gp3 : hs_K p3 = 1) (x4 : Int32) (x5 : Int32) (y0 : Int32) (S : hs_M) (h : f_X3_write_28 p0 x1 x2 p3 x4 x5 y0 S = some res) : hs_Z X 7 S [(0, .ref (hs_q X p0)), (1, .int x1), (2, .int x2), (3, .ref (hs_q X p3)), (4, .int x4), (5, .int x5)] [.int y0] 28 := by
  unfold f_X3_write_28 at h
  refine hs_istore (lv' := [(6, .int y0), (0, .ref (hs_q X p0)), (1, .int x1), (2, .int x2), (3, .ref (hs_q X p3)), (4, .int x4), (5, .int x5)]) C dX3_write_28 (by decide) rfl ?_
  refine hs_aload_n C dX3_write_30 1 rfl rfl ?_
  refine hs_iconst (v := 0) C dX3_write_31 (by decide) ?_
  refine pf_X3_28 C gp0 h dX3_write_32 (fun S_1 h => ?_)
  refine hs_iload_n C dX3_write_35 2 rfl rfl ?_
  refine hs_if_eq (tgt := 48) C dX3_write_36 (by decide) h (fun h => ?_) (fun h => ?_)
  · skip
    refine hs_sub [1, 3, 4, 5, 6, 0] rfl ?_
    exact t_X3_write_48 C hf  p0 gp0 x2 p3 gp3 x4 x5 y0 S_1 h
  · skip
    refine hs_aload_n C dX3_write_39 1 rfl rfl ?_
    refine hs_sipush (v := 224) C dX3_write_40 (by decide) ?_
    refine hs_iload_n C dX3_write_43 2 rfl rfl ?_
    refine hs_iadd C dX3_write_44 ?_
    obtain ⟨S_2, hc_3, h⟩ := hs_b1_s h
    refine cs_X3_31 C gp0 (m_X3_put p0 gp0 ((224 : Int32) + x1) S_1 hc_3) (by decide) (Nat.le_of_ble_eq_true rfl) dX3_write_45 ?_
    refine hs_sub [1, 3, 4, 5, 6, 0] rfl ?_
    exact t_X3_write_48 C hf  p0 gp0 x2 p3 gp3 x4 x5 y0 S_2 h
set_option maxRecDepth 100000 in
set_option maxHeartbeats 4000000 in
theorem t_X3_write_0 {X : hs_T} (C : hs_C X 0 RX3 cX3_write 7 3) {res : hs_M} (hf : hs_FV X cX3_write res) (p0 : Nat) (gp0 : hs_K p0 = 3) (x1 : Int32) (x2 : Int32) (p3 : Nat) (gp3 : hs_K p3 = 1) (x4 : Int32) (S : hs_M) (h : f_X3_write_0 p0 x1 x2 p3 x4 S = some res) : hs_Z X 7 S [(0, .ref (hs_q X p0)), (1, .int x1), (2, .int x2), (3, .ref (hs_q X p3)), (4, .int x4)] [] 0 := by
  unfold f_X3_write_0 at h
  refine hs_aload_n C dX3_write_0 3 rfl rfl ?_
  refine hs_iload_n C dX3_write_1 2 rfl rfl ?_
  refine hs_iload C dX3_write_2 4 rfl ?_
  obtain ⟨r_3, S_1, hc_2, h⟩ := hs_b2_s h
  refine cs_X3_15 C gp3 (m_X1_sumFor p3 gp3 x2 x4 S hc_2) (by decide) (Nat.le_of_ble_eq_true rfl) dX3_write_4 ?_
  refine hs_istore (lv' := [(5, .int r_3), (0, .ref (hs_q X p0)), (1, .int x1), (2, .int x2), (3, .ref (hs_q X p3)), (4, .int x4)]) C dX3_write_7 (by decide) rfl ?_
  refine hs_iload_n C dX3_write_9 3 rfl rfl ?_
  refine hs_iconst (v := 3) C dX3_write_10 (by decide) ?_
  refine hs_icmp_ge (tgt := 27) C dX3_write_11 (by decide) h (fun h => ?_) (fun h => ?_)
  · skip
    refine hs_iconst (v := 0) C dX3_write_27 (by decide) ?_
    refine hs_sub [1, 2, 3, 4, 5, 0] rfl ?_
    exact t_X3_write_28 C hf  p0 gp0 x1 x2 p3 gp3 x4 r_3 (0 : Int32) S_1 h
  · skip
    refine hs_aload_n C dX3_write_14 4 rfl rfl ?_
    refine gf_X3_21 C gp3 dX3_write_15 ?_
    refine hs_gets (j := 3) (nm := "LOW_BITS") C (by decide) rfl (by decide +kernel) dX3_write_18 ?_
    refine hs_iload_n C dX3_write_21 3 rfl rfl ?_
    refine hs_sld C (by decide) h dX3_write_22 (fun h => ?_)
    refine hs_iand C dX3_write_23 ?_
    refine hs_goto (tgt := 28) C dX3_write_24 (by decide) ?_
    refine hs_sub [1, 2, 3, 4, 5, 0] rfl ?_
    exact t_X3_write_28 C hf  p0 gp0 x1 x2 p3 gp3 x4 r_3 ((S_1 p3 3) &&& (hs_sv 3 x2.toNatClampNeg)) S_1 h
theorem m_X3_write (i0 : Nat) (gi0 : hs_K i0 = 3) (a1 : Int32) (a2 : Int32) (i3 : Nat) (gi3 : hs_K i3 = 1) (a4 : Int32) (S : hs_M) {S' : hs_M} (h : f_X3_write i0 a1 a2 i3 a4 S = some S') : hs_met 0 yX3_write cX3_write 7 none 3 (fun q => [.ref (q i0), .int a1, .int a2, .ref (q i3), .int a4]) S (fun q => none) S' :=
  hs_mkV (res := S') (by decide +kernel) (by decide) (fun q => Nat.le_of_ble_eq_true rfl) fun X C hf => (t_X3_write_0 C hf i0 gi0 a1 a2 i3 gi3 a4 S h)
