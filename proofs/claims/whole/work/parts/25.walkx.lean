set_option maxRecDepth 100000 in
set_option maxHeartbeats 4000000 in
theorem t_X6_byteAt_17 {X : hs_T} (C : hs_C X 0 RX6 cX6_byteAt 3 1) {res : (Nat × Int32) × hs_M} (hf : hs_FXI X cX6_byteAt 3 res) (S : hs_M) (h : f_X6_byteAt_17  S = some res) : hs_Z X 3 S [] [] 17 := by
  unfold f_X6_byteAt_17 at h
  exact hs_thr (e := 1) (by decide) C hf.2 h dX6_byteAt_17 dX6_byteAt_20 dX6_byteAt_21 dX6_byteAt_24
set_option maxRecDepth 100000 in
set_option maxHeartbeats 4000000 in
theorem t_X6_byteAt_0 {X : hs_T} (C : hs_C X 0 RX6 cX6_byteAt 3 1) {res : (Nat × Int32) × hs_M} (hf : hs_FXI X cX6_byteAt 3 res) (x1 : Int32) (x2 : Int32) (S : hs_M) (h : f_X6_byteAt_0 x1 x2 S = some res) : hs_Z X 3 S [(0, .ref (hs_q X 0)), (1, .int x1), (2, .int x2)] [] 0 := by
  unfold f_X6_byteAt_0 at h
  refine hs_aload_n C dX6_byteAt_0 0 rfl rfl ?_
  refine hs_iload_n C dX6_byteAt_1 1 rfl rfl ?_
  obtain ⟨r_3, S_1, hc_2, h⟩ := hs_b2_s h
  refine cs_X6_111 C (m_X6_isNoPacket x1 S hc_2) (by decide) (Nat.le_of_ble_eq_true rfl) dX6_byteAt_2 ?_
  refine hs_if_ne (tgt := 17) C dX6_byteAt_5 (by decide) h (fun h => ?_) (fun h => ?_)
  · skip
    refine hs_sub [] rfl ?_
    exact t_X6_byteAt_17 C hf   S_1 h
  · skip
    refine hs_aload_n C dX6_byteAt_8 0 rfl rfl ?_
    refine hs_iload_n C dX6_byteAt_9 1 rfl rfl ?_
    refine hs_iload_n C dX6_byteAt_10 2 rfl rfl ?_
    obtain ⟨r_6, S_4, hc_5, h⟩ := hs_b2_s h
    refine cs_X6_118 C (m_X6_isNoByte x1 x2 S_1 hc_5) (by decide) (Nat.le_of_ble_eq_true rfl) dX6_byteAt_11 ?_
    refine hs_if_eq (tgt := 25) C dX6_byteAt_14 (by decide) h (fun h => ?_) (fun h => ?_)
    · skip
      refine hs_aload_n C dX6_byteAt_25 0 rfl rfl ?_
      refine gf_X6_19 C dX6_byteAt_26 ?_
      refine gf_X6_114 C dX6_byteAt_29 ?_
      refine hs_iload_n C dX6_byteAt_32 1 rfl rfl ?_
      refine hs_rld (kd := 10) (t0 := 1) (Cn := RX3) C rfl rfl (show hs_K 5 = 10 by decide +kernel) rfl (by decide) rfl rfl h dX6_byteAt_33 (fun h => ?_)
      refine hs_topr h (fun p_7 h => ?_)
      obtain ⟨g_8, h⟩ := hs_kg_s h
      refine gf_X6_122 C g_8 dX6_byteAt_34 ?_
      refine hs_iload_n C dX6_byteAt_37 2 rfl rfl ?_
      refine hs_ald (kd := 8) C (Or.inl rfl) rfl (hs_k30 g_8) h dX6_byteAt_38 (fun h => ?_)
      exact hs_xreti C hf.1 h dX6_byteAt_39
    · skip
      refine hs_sub [] rfl ?_
      exact t_X6_byteAt_17 C hf   S_4 h
theorem m_X6_byteAt (a1 : Int32) (a2 : Int32) (S : hs_M) {res : (Nat × Int32) × hs_M} (h : f_X6_byteAt a1 a2 S = some res) : hs_metx yX6_byteAt cX6_byteAt 3 (some .int) 1 (fun q => [.ref (q 0), .int a1, .int a2]) S res :=
  hs_mkXI (by decide +kernel) rfl (fun q => Nat.le_of_ble_eq_true rfl) fun X C hf => t_X6_byteAt_0 C hf a1 a2 S h
set_option maxRecDepth 100000 in
set_option maxHeartbeats 4000000 in
theorem t_X6_count_10 {X : hs_T} (C : hs_C X 0 RX6 cX6_count 2 0) {res : (Nat × Int32) × hs_M} (hf : hs_FXI X cX6_count 2 res) (S : hs_M) (h : f_X6_count_10  S = some res) : hs_Z X 2 S [] [] 10 := by
  unfold f_X6_count_10 at h
  exact hs_thr (e := 2) (by decide) C hf.2 h dX6_count_10 dX6_count_13 dX6_count_14 dX6_count_17
set_option maxRecDepth 100000 in
set_option maxHeartbeats 4000000 in
theorem t_X6_count_0 {X : hs_T} (C : hs_C X 0 RX6 cX6_count 2 0) {res : (Nat × Int32) × hs_M} (hf : hs_FXI X cX6_count 2 res) (x1 : Int32) (S : hs_M) (h : f_X6_count_0 x1 S = some res) : hs_Z X 2 S [(0, .ref (hs_q X 0)), (1, .int x1)] [] 0 := by
  unfold f_X6_count_0 at h
  refine hs_iload_n C dX6_count_0 1 rfl rfl ?_
  refine hs_if_lt (tgt := 10) C dX6_count_1 (by decide) h (fun h => ?_) (fun h => ?_)
  · skip
    refine hs_sub [] rfl ?_
    exact t_X6_count_10 C hf   S h
  · skip
    refine hs_iload_n C dX6_count_4 1 rfl rfl ?_
    refine hs_bipush (v := 11) C dX6_count_5 (by decide) ?_
    refine hs_icmp_lt (tgt := 18) C dX6_count_7 (by decide) h (fun h => ?_) (fun h => ?_)
    · skip
      refine hs_aload_n C dX6_count_18 0 rfl rfl ?_
      refine gf_X6_35 C dX6_count_19 ?_
      refine hs_iload_n C dX6_count_22 1 rfl rfl ?_
      refine hs_ald (kd := 8) C (Or.inl rfl) rfl (show hs_K 46 = 8 by decide +kernel) h dX6_count_23 (fun h => ?_)
      exact hs_xreti C hf.1 h dX6_count_24
    · skip
      refine hs_sub [] rfl ?_
      exact t_X6_count_10 C hf   S h
theorem m_X6_count (a1 : Int32) (S : hs_M) {res : (Nat × Int32) × hs_M} (h : f_X6_count a1 S = some res) : hs_metx yX6_count cX6_count 2 (some .int) 0 (fun q => [.ref (q 0), .int a1]) S res :=
  hs_mkXI (by decide +kernel) rfl (fun q => Nat.le_of_ble_eq_true rfl) fun X C hf => t_X6_count_0 C hf a1 S h
set_option maxRecDepth 100000 in
set_option maxHeartbeats 4000000 in
theorem t_X6_deliver_0 {X : hs_T} (C : hs_C X 0 RX6 cX6_deliver 5 6) {res : (Nat × Int32) × hs_M} (hf : hs_FXI X cX6_deliver 5 res) (x1 : Int32) (S : hs_M) (h : f_X6_deliver_0 x1 S = some res) : hs_Z X 5 S [(0, .ref (hs_q X 0)), (1, .int x1)] [] 0 := by
  unfold f_X6_deliver_0 at h
  refine hs_aload_n C dX6_deliver_0 0 rfl rfl ?_
  refine hs_iload_n C dX6_deliver_1 1 rfl rfl ?_
  obtain ⟨r_3, S_1, hc_2, h⟩ := hs_b2_s h
  refine cs_X6_111 C (m_X6_isNoPacket x1 S hc_2) (by decide) (Nat.le_of_ble_eq_true rfl) dX6_deliver_2 ?_
  refine hs_if_eq (tgt := 16) C dX6_deliver_5 (by decide) h (fun h => ?_) (fun h => ?_)
  · skip
    refine hs_aload_n C dX6_deliver_16 0 rfl rfl ?_
    refine gf_X6_19 C dX6_deliver_17 ?_
    refine hs_iload_n C dX6_deliver_20 1 rfl rfl ?_
    obtain ⟨r_6, S_4, hc_5, h⟩ := hs_b2_s h
    refine cs_X6_125 C (m_X2_takeOff x1 S_1 hc_5) (by decide) (Nat.le_of_ble_eq_true rfl) dX6_deliver_21 ?_
    obtain ⟨g_7, h⟩ := hs_kg_s h
    refine hs_astore_n (lv' := [(2, .ref (hs_q X r_6)), (0, .ref (hs_q X 0)), (1, .int x1)]) C dX6_deliver_24 rfl (by decide) rfl ?_
    refine hs_aload_n C dX6_deliver_25 0 rfl rfl ?_
    obtain ⟨S_8, hc_9, h⟩ := hs_b1_s h
    refine cs_X6_129 C g_7 (m_X3_read r_6 g_7 S_4 hc_9) (by decide) (Nat.le_of_ble_eq_true rfl) dX6_deliver_26 ?_
    refine hs_aload_n C dX6_deliver_29 0 rfl rfl ?_
    refine gf_X6_132 C g_7 dX6_deliver_30 ?_
    refine hs_iconst (v := (-1)) C dX6_deliver_33 (by decide) ?_
    refine hs_icmp_ne (tgt := 56) C dX6_deliver_34 (by decide) h (fun h => ?_) (fun h => ?_)
    · skip
      refine hs_aload_n C dX6_deliver_56 1 rfl rfl ?_
      refine gf_X6_31 C dX6_deliver_57 ?_
      refine hs_aload_n C dX6_deliver_60 0 rfl rfl ?_
      refine gf_X6_135 C g_7 dX6_deliver_61 ?_
      refine hs_top h (fun x_10 h => ?_)
      have g_11 := hs_k11 (hs_ix_s h).1
      refine hs_rld (kd := 11) (t0 := 2) (Cn := RX4) (tgt := 38 + x_10.toNatClampNeg) C rfl rfl (show hs_K 37 = 11 by decide +kernel) rfl (by decide) rfl rfl h dX6_deliver_64 (fun h => ?_)
      refine hs_astore_n (lv' := [(3, .ref (hs_q X (38 + x_10.toNatClampNeg))), (2, .ref (hs_q X r_6)), (0, .ref (hs_q X 0)), (1, .int x1)]) C dX6_deliver_65 rfl (by decide) rfl ?_
      refine hs_aload_n C dX6_deliver_66 0 rfl rfl ?_
      refine hs_aload_n C dX6_deliver_67 1 rfl rfl ?_
      refine gf_X6_132 C g_7 dX6_deliver_68 ?_
      obtain ⟨r_14, S_12, hc_13, h⟩ := hs_b2_s h
      refine cs_X6_138 C g_11 (m_X4_hasUseFor (38 + x_10.toNatClampNeg) g_11 (S_8 r_6 3) S_8 hc_13) (by decide) (Nat.le_of_ble_eq_true rfl) dX6_deliver_71 ?_
      refine hs_if_ne (tgt := 96) C dX6_deliver_74 (by decide) h (fun h => ?_) (fun h => ?_)
      · skip
        refine hs_aload_n C dX6_deliver_96 0 rfl rfl ?_
        refine hs_aload_n C dX6_deliver_97 1 rfl rfl ?_
        refine hs_aload_n C dX6_deliver_98 2 rfl rfl ?_
        refine gf_X6_42 C dX6_deliver_99 ?_
        refine hs_topr h (fun p_15 h => ?_)
        obtain ⟨g_16, h⟩ := hs_kg_s h
        obtain ⟨r_19, S_17, hc_18, h⟩ := hs_b2_s h
        refine cs_X6_144 C g_11 (m_X4_take (38 + x_10.toNatClampNeg) g_11 r_6 g_7 p_15 g_16 S_12 hc_18) (by decide) (Nat.le_of_ble_eq_true rfl) dX6_deliver_102 ?_
        refine hs_istore (lv' := [(4, .int r_19), (3, .ref (hs_q X (38 + x_10.toNatClampNeg))), (2, .ref (hs_q X r_6)), (0, .ref (hs_q X 0)), (1, .int x1)]) C dX6_deliver_105 (by decide) rfl ?_
        refine hs_iload C dX6_deliver_107 0 rfl ?_
        refine hs_if_ne (tgt := 131) C dX6_deliver_109 (by decide) h (fun h => ?_) (fun h => ?_)
        · skip
          refine hs_aload_n C dX6_deliver_131 3 rfl rfl ?_
          obtain ⟨S_20, hc_21, h⟩ := hs_b1_s h
          refine cs_X6_151 C (m_X6_keepTrial  S_17 hc_21) (by decide) (Nat.le_of_ble_eq_true rfl) dX6_deliver_132 ?_
          refine hs_aload_n C dX6_deliver_135 3 rfl rfl ?_
          refine gf_X6_35 C dX6_deliver_136 ?_
          refine hs_bipush (v := 6) C dX6_deliver_139 (by decide) ?_
          refine hs_dup2 C dX6_deliver_141 rfl rfl ?_
          refine hs_ald (kd := 8) C (Or.inl rfl) rfl (show hs_K 46 = 8 by decide +kernel) h dX6_deliver_142 (fun h => ?_)
          refine hs_iconst (v := 1) C dX6_deliver_143 (by decide) ?_
          refine hs_iadd C dX6_deliver_144 ?_
          refine hs_ast (kd := 8) C (Or.inl rfl) rfl (show hs_K 46 = 8 by decide +kernel) h dX6_deliver_145 (fun S_22 h => ?_)
          refine hs_iload C dX6_deliver_146 0 rfl ?_
          refine hs_iconst (v := 2) C dX6_deliver_148 (by decide) ?_
          refine hs_icmp_ne (tgt := 170) C dX6_deliver_149 (by decide) h (fun h => ?_) (fun h => ?_)
          · skip
            refine hs_aload_n C dX6_deliver_170 2 rfl rfl ?_
            refine gf_X6_135 C g_7 dX6_deliver_171 ?_
            exact hs_xreti C hf.1 h dX6_deliver_174
          · skip
            refine hs_aload_n C dX6_deliver_152 3 rfl rfl ?_
            refine gf_X6_35 C dX6_deliver_153 ?_
            refine hs_bipush (v := 7) C dX6_deliver_156 (by decide) ?_
            refine hs_dup2 C dX6_deliver_158 rfl rfl ?_
            refine hs_ald (kd := 8) C (Or.inl rfl) rfl (show hs_K 46 = 8 by decide +kernel) h dX6_deliver_159 (fun h => ?_)
            refine hs_iconst (v := 1) C dX6_deliver_160 (by decide) ?_
            refine hs_iadd C dX6_deliver_161 ?_
            refine hs_ast (kd := 8) C (Or.inl rfl) rfl (show hs_K 46 = 8 by decide +kernel) h dX6_deliver_162 (fun S_23 h => ?_)
            refine hs_aload_n C dX6_deliver_163 2 rfl rfl ?_
            refine gf_X6_135 C g_7 dX6_deliver_164 ?_
            refine hs_iconst (v := 4) C dX6_deliver_167 (by decide) ?_
            refine hs_iadd C dX6_deliver_168 ?_
            exact hs_xreti C hf.1 h dX6_deliver_169
        · skip
          refine hs_aload_n C dX6_deliver_112 3 rfl rfl ?_
          refine gf_X6_35 C dX6_deliver_113 ?_
          refine hs_bipush (v := 10) C dX6_deliver_116 (by decide) ?_
          refine hs_dup2 C dX6_deliver_118 rfl rfl ?_
          refine hs_ald (kd := 8) C (Or.inl rfl) rfl (show hs_K 46 = 8 by decide +kernel) h dX6_deliver_119 (fun h => ?_)
          refine hs_iconst (v := 1) C dX6_deliver_120 (by decide) ?_
          refine hs_iadd C dX6_deliver_121 ?_
          refine hs_ast (kd := 8) C (Or.inl rfl) rfl (show hs_K 46 = 8 by decide +kernel) h dX6_deliver_122 (fun S_24 h => ?_)
          exact hs_thr (e := 4) (by decide) C hf.2 h dX6_deliver_123 dX6_deliver_126 dX6_deliver_127 dX6_deliver_130
      · skip
        refine hs_aload_n C dX6_deliver_77 2 rfl rfl ?_
        refine gf_X6_35 C dX6_deliver_78 ?_
        refine hs_bipush (v := 9) C dX6_deliver_81 (by decide) ?_
        refine hs_dup2 C dX6_deliver_83 rfl rfl ?_
        refine hs_ald (kd := 8) C (Or.inl rfl) rfl (show hs_K 46 = 8 by decide +kernel) h dX6_deliver_84 (fun h => ?_)
        refine hs_iconst (v := 1) C dX6_deliver_85 (by decide) ?_
        refine hs_iadd C dX6_deliver_86 ?_
        refine hs_ast (kd := 8) C (Or.inl rfl) rfl (show hs_K 46 = 8 by decide +kernel) h dX6_deliver_87 (fun S_25 h => ?_)
        exact hs_thr (e := 3) (by decide) C hf.2 h dX6_deliver_88 dX6_deliver_91 dX6_deliver_92 dX6_deliver_95
    · skip
      refine hs_aload_n C dX6_deliver_37 1 rfl rfl ?_
      refine gf_X6_35 C dX6_deliver_38 ?_
      refine hs_bipush (v := 8) C dX6_deliver_41 (by decide) ?_
      refine hs_dup2 C dX6_deliver_43 rfl rfl ?_
      refine hs_ald (kd := 8) C (Or.inl rfl) rfl (show hs_K 46 = 8 by decide +kernel) h dX6_deliver_44 (fun h => ?_)
      refine hs_iconst (v := 1) C dX6_deliver_45 (by decide) ?_
      refine hs_iadd C dX6_deliver_46 ?_
      refine hs_ast (kd := 8) C (Or.inl rfl) rfl (show hs_K 46 = 8 by decide +kernel) h dX6_deliver_47 (fun S_26 h => ?_)
      exact hs_thr (e := 2) (by decide) C hf.2 h dX6_deliver_48 dX6_deliver_51 dX6_deliver_52 dX6_deliver_55
  · skip
    exact hs_thr (e := 1) (by decide) C hf.2 h dX6_deliver_8 dX6_deliver_11 dX6_deliver_12 dX6_deliver_15
theorem m_X6_deliver (a1 : Int32) (S : hs_M) {res : (Nat × Int32) × hs_M} (h : f_X6_deliver a1 S = some res) : hs_metx yX6_deliver cX6_deliver 5 (some .int) 6 (fun q => [.ref (q 0), .int a1]) S res :=
  hs_mkXI (by decide +kernel) rfl (fun q => Nat.le_of_ble_eq_true rfl) fun X C hf => t_X6_deliver_0 C hf a1 S h
set_option maxRecDepth 100000 in
set_option maxHeartbeats 4000000 in
theorem t_X6_head_17 {X : hs_T} (C : hs_C X 0 RX6 cX6_head 4 1) {res : (Nat × Int32) × hs_M} (hf : hs_FXV X cX6_head 4 res) (S : hs_M) (h : f_X6_head_17  S = some res) : hs_Z X 4 S [] [] 17 := by
  unfold f_X6_head_17 at h
  exact hs_thr (e := 2) (by decide) C hf.2 h dX6_head_17 dX6_head_20 dX6_head_21 dX6_head_24
set_option maxRecDepth 100000 in
set_option maxHeartbeats 4000000 in
theorem t_X6_head_0 {X : hs_T} (C : hs_C X 0 RX6 cX6_head 4 1) {res : (Nat × Int32) × hs_M} (hf : hs_FXV X cX6_head 4 res) (x1 : Int32) (x2 : Int32) (x3 : Int32) (S : hs_M) (h : f_X6_head_0 x1 x2 x3 S = some res) : hs_Z X 4 S [(0, .ref (hs_q X 0)), (1, .int x1), (2, .int x2), (3, .int x3)] [] 0 := by
  unfold f_X6_head_0 at h
  refine hs_iload_n C dX6_head_0 1 rfl rfl ?_
  obtain ⟨r_3, S_1, hc_2, h⟩ := hs_b2_s h
  refine cs_X6_54 C (m_X6_isNotInTwoBytes x1 S hc_2) (by decide) (Nat.le_of_ble_eq_true rfl) dX6_head_1 ?_
  refine hs_if_ne (tgt := 17) C dX6_head_4 (by decide) h (fun h => ?_) (fun h => ?_)
  · skip
    refine hs_sub [] rfl ?_
    exact t_X6_head_17 C hf   S_1 h
  · skip
    refine hs_iload_n C dX6_head_7 2 rfl rfl ?_
    refine hs_if_lt (tgt := 17) C dX6_head_8 (by decide) h (fun h => ?_) (fun h => ?_)
    · skip
      refine hs_sub [] rfl ?_
      exact t_X6_head_17 C hf   S_1 h
    · skip
      refine hs_iload_n C dX6_head_11 2 rfl rfl ?_
      refine hs_bipush (v := 127) C dX6_head_12 (by decide) ?_
      refine hs_icmp_le (tgt := 25) C dX6_head_14 (by decide) h (fun h => ?_) (fun h => ?_)
      · skip
        refine hs_aload_n C dX6_head_25 0 rfl rfl ?_
        refine gf_X6_10 C dX6_head_26 ?_
        refine hs_iload_n C dX6_head_29 1 rfl rfl ?_
        refine pf_X6_64 C (show hs_K 1 = 1 by decide +kernel) h dX6_head_30 (fun S_4 h => ?_)
        refine hs_aload_n C dX6_head_33 0 rfl rfl ?_
        refine gf_X6_10 C dX6_head_34 ?_
        refine hs_iload_n C dX6_head_37 2 rfl rfl ?_
        refine pf_X6_67 C (show hs_K 1 = 1 by decide +kernel) h dX6_head_38 (fun S_5 h => ?_)
        refine hs_aload_n C dX6_head_41 0 rfl rfl ?_
        refine gf_X6_10 C dX6_head_42 ?_
        refine hs_iload_n C dX6_head_45 3 rfl rfl ?_
        refine pf_X6_70 C (show hs_K 1 = 1 by decide +kernel) h dX6_head_46 (fun S_6 h => ?_)
        exact hs_xretv C hf.1 h dX6_head_49
      · skip
        refine hs_sub [] rfl ?_
        exact t_X6_head_17 C hf   S_1 h
theorem m_X6_head (a1 : Int32) (a2 : Int32) (a3 : Int32) (S : hs_M) {res : (Nat × Int32) × hs_M} (h : f_X6_head a1 a2 a3 S = some res) : hs_metx yX6_head cX6_head 4 none 1 (fun q => [.ref (q 0), .int a1, .int a2, .int a3]) S res :=
  hs_mkXV (by decide +kernel) rfl (fun q => Nat.le_of_ble_eq_true rfl) fun X C hf => t_X6_head_0 C hf a1 a2 a3 S h
set_option maxRecDepth 100000 in
set_option maxHeartbeats 4000000 in
theorem t_X6_lose_0 {X : hs_T} (C : hs_C X 0 RX6 cX6_lose 2 1) {res : (Nat × Int32) × hs_M} (hf : hs_FXV X cX6_lose 2 res) (x1 : Int32) (S : hs_M) (h : f_X6_lose_0 x1 S = some res) : hs_Z X 2 S [(0, .ref (hs_q X 0)), (1, .int x1)] [] 0 := by
  unfold f_X6_lose_0 at h
  refine hs_aload_n C dX6_lose_0 0 rfl rfl ?_
  refine hs_iload_n C dX6_lose_1 1 rfl rfl ?_
  obtain ⟨r_3, S_1, hc_2, h⟩ := hs_b2_s h
  refine cs_X6_111 C (m_X6_isNoPacket x1 S hc_2) (by decide) (Nat.le_of_ble_eq_true rfl) dX6_lose_2 ?_
  refine hs_if_eq (tgt := 16) C dX6_lose_5 (by decide) h (fun h => ?_) (fun h => ?_)
  · skip
    refine hs_aload_n C dX6_lose_16 0 rfl rfl ?_
    refine gf_X6_19 C dX6_lose_17 ?_
    refine hs_iload_n C dX6_lose_20 1 rfl rfl ?_
    obtain ⟨r_6, S_4, hc_5, h⟩ := hs_b2_s h
    refine cs_X6_125 C (m_X2_takeOff x1 S_1 hc_5) (by decide) (Nat.le_of_ble_eq_true rfl) dX6_lose_21 ?_
    obtain ⟨g_7, h⟩ := hs_kg_s h
    refine hs_pop C dX6_lose_24 rfl ?_
    exact hs_xretv C hf.1 h dX6_lose_25
  · skip
    exact hs_thr (e := 1) (by decide) C hf.2 h dX6_lose_8 dX6_lose_11 dX6_lose_12 dX6_lose_15
theorem m_X6_lose (a1 : Int32) (S : hs_M) {res : (Nat × Int32) × hs_M} (h : f_X6_lose a1 S = some res) : hs_metx yX6_lose cX6_lose 2 none 1 (fun q => [.ref (q 0), .int a1]) S res :=
  hs_mkXV (by decide +kernel) rfl (fun q => Nat.le_of_ble_eq_true rfl) fun X C hf => t_X6_lose_0 C hf a1 S h
set_option maxRecDepth 100000 in
set_option maxHeartbeats 4000000 in
theorem t_X6_made_10 {X : hs_T} (C : hs_C X 0 RX6 cX6_made 2 2) {res : (Nat × Int32) × hs_M} (hf : hs_FXI X cX6_made 2 res) (S : hs_M) (h : f_X6_made_10  S = some res) : hs_Z X 2 S [] [] 10 := by
  unfold f_X6_made_10 at h
  exact hs_thr (e := 1) (by decide) C hf.2 h dX6_made_10 dX6_made_13 dX6_made_14 dX6_made_17
set_option maxRecDepth 100000 in
set_option maxHeartbeats 4000000 in
theorem t_X6_made_0 {X : hs_T} (C : hs_C X 0 RX6 cX6_made 2 2) {res : (Nat × Int32) × hs_M} (hf : hs_FXI X cX6_made 2 res) (x1 : Int32) (S : hs_M) (h : f_X6_made_0 x1 S = some res) : hs_Z X 2 S [(0, .ref (hs_q X 0)), (1, .int x1)] [] 0 := by
  unfold f_X6_made_0 at h
  refine hs_iload_n C dX6_made_0 1 rfl rfl ?_
  refine hs_if_lt (tgt := 10) C dX6_made_1 (by decide) h (fun h => ?_) (fun h => ?_)
  · skip
    refine hs_sub [] rfl ?_
    exact t_X6_made_10 C hf   S h
  · skip
    refine hs_iload_n C dX6_made_4 1 rfl rfl ?_
    refine hs_bipush (v := 11) C dX6_made_5 (by decide) ?_
    refine hs_icmp_lt (tgt := 18) C dX6_made_7 (by decide) h (fun h => ?_) (fun h => ?_)
    · skip
      refine hs_aload_n C dX6_made_18 0 rfl rfl ?_
      refine gf_X6_39 C dX6_made_19 ?_
      refine hs_topr h (fun p_1 h => ?_)
      obtain ⟨g_2, h⟩ := hs_kg_s h
      refine hs_iload_n C dX6_made_22 1 rfl rfl ?_
      obtain ⟨r_5, S_3, hc_4, h⟩ := hs_b2_s h
      refine cs_X6_154 C g_2 (m_X1_part p_1 g_2 x1 S hc_4) (by decide) (Nat.le_of_ble_eq_true rfl) dX6_made_23 ?_
      exact hs_xreti C hf.1 h dX6_made_26
    · skip
      refine hs_sub [] rfl ?_
      exact t_X6_made_10 C hf   S h
theorem m_X6_made (a1 : Int32) (S : hs_M) {res : (Nat × Int32) × hs_M} (h : f_X6_made a1 S = some res) : hs_metx yX6_made cX6_made 2 (some .int) 2 (fun q => [.ref (q 0), .int a1]) S res :=
  hs_mkXI (by decide +kernel) rfl (fun q => Nat.le_of_ble_eq_true rfl) fun X C hf => t_X6_made_0 C hf a1 S h
set_option maxRecDepth 100000 in
set_option maxHeartbeats 4000000 in
theorem t_X6_receiver_0 {X : hs_T} (C : hs_C X 0 RX6 cX6_receiver 4 1) {res : (Nat × Int32) × hs_M} (hf : hs_FXI X cX6_receiver 4 res) (x1 : Int32) (x2 : Int32) (S : hs_M) (h : f_X6_receiver_0 x1 x2 S = some res) : hs_Z X 4 S [(0, .ref (hs_q X 0)), (1, .int x1), (2, .int x2)] [] 0 := by
  unfold f_X6_receiver_0 at h
  refine hs_iload_n C dX6_receiver_0 1 rfl rfl ?_
  obtain ⟨r_3, S_1, hc_2, h⟩ := hs_b2_s h
  refine cs_X6_47 C (m_X6_isNoFlow x1 S hc_2) (by decide) (Nat.le_of_ble_eq_true rfl) dX6_receiver_1 ?_
  refine hs_if_eq (tgt := 15) C dX6_receiver_4 (by decide) h (fun h => ?_) (fun h => ?_)
  · skip
    refine hs_aload_n C dX6_receiver_15 0 rfl rfl ?_
    refine gf_X6_31 C dX6_receiver_16 ?_
    refine hs_iload_n C dX6_receiver_19 1 rfl rfl ?_
    have g_4 := hs_k11 (hs_ix_s h).1
    refine hs_rld (kd := 11) (t0 := 2) (Cn := RX4) (tgt := 38 + x1.toNatClampNeg) C rfl rfl (show hs_K 37 = 11 by decide +kernel) rfl (by decide) rfl rfl h dX6_receiver_20 (fun h => ?_)
    refine hs_astore_n (lv' := [(3, .ref (hs_q X (38 + x1.toNatClampNeg))), (0, .ref (hs_q X 0)), (1, .int x1), (2, .int x2)]) C dX6_receiver_21 rfl (by decide) rfl ?_
    refine hs_iload_n C dX6_receiver_22 3 rfl rfl ?_
    rcases hs_if_s h with ⟨c_5, h⟩ | ⟨c_5, h⟩
    · skip
      refine hs_tableIn (off := 29) (tgt := 52) C dX6_receiver_23 (by rw [c_5]; decide) (by rw [c_5]; decide) (by rw [c_5]; rfl) (by decide) ?_
      refine hs_aload_n C dX6_receiver_52 0 rfl rfl ?_
      refine gf_X6_179 C g_4 dX6_receiver_53 ?_
      exact hs_xreti C hf.1 h dX6_receiver_56
    · skip
      rcases hs_if_s h with ⟨c_6, h⟩ | ⟨c_6, h⟩
      · skip
        refine hs_tableIn (off := 34) (tgt := 57) C dX6_receiver_23 (by rw [c_6]; decide) (by rw [c_6]; decide) (by rw [c_6]; rfl) (by decide) ?_
        refine hs_aload_n C dX6_receiver_57 0 rfl rfl ?_
        refine gf_X6_182 C g_4 dX6_receiver_58 ?_
        exact hs_xreti C hf.1 h dX6_receiver_61
      · skip
        rcases hs_if_s h with ⟨c_7, h⟩ | ⟨c_7, h⟩
        · skip
          refine hs_tableIn (off := 39) (tgt := 62) C dX6_receiver_23 (by rw [c_7]; decide) (by rw [c_7]; decide) (by rw [c_7]; rfl) (by decide) ?_
          refine hs_aload_n C dX6_receiver_62 0 rfl rfl ?_
          refine gf_X6_185 C g_4 dX6_receiver_63 ?_
          exact hs_xreti C hf.1 h dX6_receiver_66
        · skip
          rcases hs_if_s h with ⟨c_8, h⟩ | ⟨c_8, h⟩
          · skip
            refine hs_tableIn (off := 44) (tgt := 67) C dX6_receiver_23 (by rw [c_8]; decide) (by rw [c_8]; decide) (by rw [c_8]; rfl) (by decide) ?_
            refine hs_aload_n C dX6_receiver_67 0 rfl rfl ?_
            refine gf_X6_188 C g_4 dX6_receiver_68 ?_
            exact hs_xreti C hf.1 h dX6_receiver_71
          · skip
            refine hs_tableOut (tgt := 72) C dX6_receiver_23 (by have e0 := lv_neT (a := 0) c_5 (by decide); have e1 := lv_neT (a := 1) c_6 (by decide); have e2 := lv_neT (a := 2) c_7 (by decide); have e3 := lv_neT (a := 3) c_8 (by decide); omega) (by decide) ?_
            exact hs_thr (e := 2) (by decide) C hf.2 h dX6_receiver_72 dX6_receiver_75 dX6_receiver_76 dX6_receiver_79
  · skip
    exact hs_thr (e := 1) (by decide) C hf.2 h dX6_receiver_7 dX6_receiver_10 dX6_receiver_11 dX6_receiver_14
theorem m_X6_receiver (a1 : Int32) (a2 : Int32) (S : hs_M) {res : (Nat × Int32) × hs_M} (h : f_X6_receiver a1 a2 S = some res) : hs_metx yX6_receiver cX6_receiver 4 (some .int) 1 (fun q => [.ref (q 0), .int a1, .int a2]) S res :=
  hs_mkXI (by decide +kernel) rfl (fun q => Nat.le_of_ble_eq_true rfl) fun X C hf => t_X6_receiver_0 C hf a1 a2 S h
set_option maxRecDepth 100000 in
set_option maxHeartbeats 4000000 in
theorem t_X6_send_161 {X : hs_T} (C : hs_C X 0 RX6 cX6_send 8 4) {res : (Nat × Int32) × hs_M} (hf : hs_FXI X cX6_send 8 res) (y0 : Int32) (S : hs_M) (h : f_X6_send_161 y0 S = some res) : hs_Z X 8 S [] [.int y0] 161 := by
  unfold f_X6_send_161 at h
  exact hs_xreti C hf.1 h dX6_send_161
set_option maxRecDepth 100000 in
set_option maxHeartbeats 4000000 in
theorem t_X6_send_30 {X : hs_T} (C : hs_C X 0 RX6 cX6_send 8 4) {res : (Nat × Int32) × hs_M} (hf : hs_FXI X cX6_send 8 res) (S : hs_M) (h : f_X6_send_30  S = some res) : hs_Z X 8 S [] [] 30 := by
  unfold f_X6_send_30 at h
  exact hs_thr (e := 2) (by decide) C hf.2 h dX6_send_30 dX6_send_33 dX6_send_34 dX6_send_37
set_option maxRecDepth 100000 in
set_option maxHeartbeats 4000000 in
theorem t_X6_send_0 {X : hs_T} (C : hs_C X 0 RX6 cX6_send 8 4) {res : (Nat × Int32) × hs_M} (hf : hs_FXI X cX6_send 8 res) (x1 : Int32) (x2 : Int32) (x3 : Int32) (x4 : Int32) (S : hs_M) (h : f_X6_send_0 x1 x2 x3 x4 S = some res) : hs_Z X 8 S [(0, .ref (hs_q X 0)), (1, .int x1), (2, .int x2), (3, .int x3), (4, .int x4)] [] 0 := by
  unfold f_X6_send_0 at h
  refine hs_iload_n C dX6_send_0 1 rfl rfl ?_
  obtain ⟨r_3, S_1, hc_2, h⟩ := hs_b2_s h
  refine cs_X6_47 C (m_X6_isNoFlow x1 S hc_2) (by decide) (Nat.le_of_ble_eq_true rfl) dX6_send_1 ?_
  refine hs_if_eq (tgt := 15) C dX6_send_4 (by decide) h (fun h => ?_) (fun h => ?_)
  · skip
    refine hs_iload_n C dX6_send_15 2 rfl rfl ?_
    obtain ⟨r_6, S_4, hc_5, h⟩ := hs_b2_s h
    refine cs_X6_54 C (m_X6_isNotInTwoBytes x2 S_1 hc_5) (by decide) (Nat.le_of_ble_eq_true rfl) dX6_send_16 ?_
    refine hs_if_ne (tgt := 30) C dX6_send_19 (by decide) h (fun h => ?_) (fun h => ?_)
    · skip
      refine hs_sub [] rfl ?_
      exact t_X6_send_30 C hf   S_4 h
    · skip
      refine hs_iload C dX6_send_22 4 rfl ?_
      obtain ⟨r_9, S_7, hc_8, h⟩ := hs_b2_s h
      refine cs_X6_54 C (m_X6_isNotInTwoBytes x4 S_4 hc_8) (by decide) (Nat.le_of_ble_eq_true rfl) dX6_send_24 ?_
      refine hs_if_eq (tgt := 38) C dX6_send_27 (by decide) h (fun h => ?_) (fun h => ?_)
      · skip
        refine hs_aload_n C dX6_send_38 0 rfl rfl ?_
        refine gf_X6_10 C dX6_send_39 ?_
        refine hs_iload_n C dX6_send_42 2 rfl rfl ?_
        refine pf_X6_74 C (show hs_K 1 = 1 by decide +kernel) h dX6_send_43 (fun S_10 h => ?_)
        refine hs_aload_n C dX6_send_46 0 rfl rfl ?_
        refine gf_X6_10 C dX6_send_47 ?_
        refine hs_iload_n C dX6_send_50 3 rfl rfl ?_
        refine pf_X6_77 C (show hs_K 1 = 1 by decide +kernel) h dX6_send_51 (fun S_11 h => ?_)
        refine hs_aload_n C dX6_send_54 0 rfl rfl ?_
        refine gf_X6_10 C dX6_send_55 ?_
        refine hs_iload C dX6_send_58 4 rfl ?_
        refine pf_X6_80 C (show hs_K 1 = 1 by decide +kernel) h dX6_send_60 (fun S_12 h => ?_)
        refine hs_aload_n C dX6_send_63 0 rfl rfl ?_
        refine gf_X6_25 C dX6_send_64 ?_
        refine hs_iload_n C dX6_send_67 1 rfl rfl ?_
        have g_13 := hs_k12 (hs_ix_s h).1
        refine hs_rld (kd := 12) (t0 := 3) (Cn := RX5) (tgt := 25 + x1.toNatClampNeg) C rfl rfl (show hs_K 24 = 12 by decide +kernel) rfl (by decide) rfl rfl h dX6_send_68 (fun h => ?_)
        refine hs_astore (lv' := [(5, .ref (hs_q X (25 + x1.toNatClampNeg))), (0, .ref (hs_q X 0)), (1, .int x1), (2, .int x2), (3, .int x3), (4, .int x4)]) C dX6_send_69 (by decide) rfl ?_
        refine hs_aload C dX6_send_71 0 rfl ?_
        refine hs_aload_n C dX6_send_73 1 rfl rfl ?_
        refine gf_X6_10 C dX6_send_74 ?_
        obtain ⟨r_16, S_14, hc_15, h⟩ := hs_b2_s h
        refine cs_X6_83 C g_13 (m_X5_chooseKind (25 + x1.toNatClampNeg) g_13 1 (show hs_K 1 = 1 by decide +kernel) S_12 hc_15) (by decide) (Nat.le_of_ble_eq_true rfl) dX6_send_77 ?_
        refine hs_istore (lv' := [(6, .int r_16), (5, .ref (hs_q X (25 + x1.toNatClampNeg))), (0, .ref (hs_q X 0)), (1, .int x1), (2, .int x2), (3, .int x3), (4, .int x4)]) C dX6_send_80 (by decide) rfl ?_
        refine hs_aload_n C dX6_send_82 2 rfl rfl ?_
        refine gf_X6_19 C dX6_send_83 ?_
        obtain ⟨r_19, S_17, hc_18, h⟩ := hs_b2_s h
        refine cs_X6_87 C (m_X2_rowBehind  S_14 hc_18) (by decide) (Nat.le_of_ble_eq_true rfl) dX6_send_86 ?_
        obtain ⟨g_20, h⟩ := hs_kg_s h
        refine hs_astore (lv' := [(7, .ref (hs_q X r_19)), (6, .int r_16), (5, .ref (hs_q X (25 + x1.toNatClampNeg))), (0, .ref (hs_q X 0)), (1, .int x1), (2, .int x2), (3, .int x3), (4, .int x4)]) C dX6_send_89 (by decide) rfl ?_
        refine hs_aload C dX6_send_91 0 rfl ?_
        refine hs_iload_n C dX6_send_93 4 rfl rfl ?_
        refine hs_iload C dX6_send_94 1 rfl ?_
        refine hs_aload_n C dX6_send_96 3 rfl rfl ?_
        refine gf_X6_10 C dX6_send_97 ?_
        refine hs_aload C dX6_send_100 2 rfl ?_
        refine gf_X6_60 C g_13 dX6_send_102 ?_
        obtain ⟨S_21, hc_22, h⟩ := hs_b1_s h
        refine cs_X6_91 C g_20 (m_X3_write r_19 g_20 x1 r_16 1 (show hs_K 1 = 1 by decide +kernel) (S_17 (25 + x1.toNatClampNeg) 1) S_17 hc_22) (by decide) (Nat.le_of_ble_eq_true rfl) dX6_send_105 ?_
        refine hs_aload C dX6_send_108 2 rfl ?_
        refine hs_iload C dX6_send_110 1 rfl ?_
        refine hs_iload_n C dX6_send_112 5 rfl rfl ?_
        obtain ⟨S_23, hc_24, h⟩ := hs_b1_s h
        refine cs_X6_97 C g_13 (m_X5_noteSent (25 + x1.toNatClampNeg) g_13 r_16 x2 S_21 hc_24) (by decide) (Nat.le_of_ble_eq_true rfl) dX6_send_113 ?_
        refine hs_aload_n C dX6_send_116 3 rfl rfl ?_
        refine gf_X6_35 C dX6_send_117 ?_
        refine hs_iload C dX6_send_120 1 rfl ?_
        refine hs_dup2 C dX6_send_122 rfl rfl ?_
        refine hs_ald (kd := 8) C (Or.inl rfl) rfl (show hs_K 46 = 8 by decide +kernel) h dX6_send_123 (fun h => ?_)
        refine hs_iconst (v := 1) C dX6_send_124 (by decide) ?_
        refine hs_iadd C dX6_send_125 ?_
        refine hs_ast (kd := 8) C (Or.inl rfl) rfl (show hs_K 46 = 8 by decide +kernel) h dX6_send_126 (fun S_25 h => ?_)
        refine hs_aload_n C dX6_send_127 3 rfl rfl ?_
        refine gf_X6_35 C dX6_send_128 ?_
        refine hs_iconst (v := 5) C dX6_send_131 (by decide) ?_
        refine hs_dup2 C dX6_send_132 rfl rfl ?_
        refine hs_ald (kd := 8) C (Or.inl rfl) rfl (show hs_K 46 = 8 by decide +kernel) h dX6_send_133 (fun h => ?_)
        refine hs_aload C dX6_send_134 0 rfl ?_
        refine gf_X6_101 C g_20 dX6_send_136 ?_
        refine hs_iadd C dX6_send_139 ?_
        refine hs_ast (kd := 8) C (Or.inl rfl) rfl (show hs_K 46 = 8 by decide +kernel) h dX6_send_140 (fun S_26 h => ?_)
        refine hs_aload_n C dX6_send_141 3 rfl rfl ?_
        refine gf_X6_19 C dX6_send_142 ?_
        obtain ⟨r_29, S_27, hc_28, h⟩ := hs_b2_s h
        refine cs_X6_104 C (m_X2_addRowBehind  S_26 hc_28) (by decide) (Nat.le_of_ble_eq_true rfl) dX6_send_145 ?_
        refine hs_if_eq (tgt := 156) C dX6_send_148 (by decide) h (fun h => ?_) (fun h => ?_)
        · skip
          refine hs_iload C dX6_send_156 1 rfl ?_
          refine hs_bipush (v := 8) C dX6_send_158 (by decide) ?_
          refine hs_iadd C dX6_send_160 ?_
          refine hs_sub [] rfl ?_
          exact t_X6_send_161 C hf  (r_16 + (8 : Int32)) S_27 h
        · skip
          refine hs_iload C dX6_send_151 1 rfl ?_
          refine hs_goto (tgt := 161) C dX6_send_153 (by decide) ?_
          refine hs_sub [] rfl ?_
          exact t_X6_send_161 C hf  r_16 S_27 h
      · skip
        refine hs_sub [] rfl ?_
        exact t_X6_send_30 C hf   S_7 h
  · skip
    exact hs_thr (e := 1) (by decide) C hf.2 h dX6_send_7 dX6_send_10 dX6_send_11 dX6_send_14
theorem m_X6_send (a1 : Int32) (a2 : Int32) (a3 : Int32) (a4 : Int32) (S : hs_M) {res : (Nat × Int32) × hs_M} (h : f_X6_send a1 a2 a3 a4 S = some res) : hs_metx yX6_send cX6_send 8 (some .int) 4 (fun q => [.ref (q 0), .int a1, .int a2, .int a3, .int a4]) S res :=
  hs_mkXI (by decide +kernel) rfl (fun q => Nat.le_of_ble_eq_true rfl) fun X C hf => t_X6_send_0 C hf a1 a2 a3 a4 S h
set_option maxRecDepth 100000 in
set_option maxHeartbeats 4000000 in
theorem t_X6_sender_0 {X : hs_T} (C : hs_C X 0 RX6 cX6_sender 4 1) {res : (Nat × Int32) × hs_M} (hf : hs_FXI X cX6_sender 4 res) (x1 : Int32) (x2 : Int32) (S : hs_M) (h : f_X6_sender_0 x1 x2 S = some res) : hs_Z X 4 S [(0, .ref (hs_q X 0)), (1, .int x1), (2, .int x2)] [] 0 := by
  unfold f_X6_sender_0 at h
  refine hs_iload_n C dX6_sender_0 1 rfl rfl ?_
  obtain ⟨r_3, S_1, hc_2, h⟩ := hs_b2_s h
  refine cs_X6_47 C (m_X6_isNoFlow x1 S hc_2) (by decide) (Nat.le_of_ble_eq_true rfl) dX6_sender_1 ?_
  refine hs_if_eq (tgt := 15) C dX6_sender_4 (by decide) h (fun h => ?_) (fun h => ?_)
  · skip
    refine hs_aload_n C dX6_sender_15 0 rfl rfl ?_
    refine gf_X6_25 C dX6_sender_16 ?_
    refine hs_iload_n C dX6_sender_19 1 rfl rfl ?_
    have g_4 := hs_k12 (hs_ix_s h).1
    refine hs_rld (kd := 12) (t0 := 3) (Cn := RX5) (tgt := 25 + x1.toNatClampNeg) C rfl rfl (show hs_K 24 = 12 by decide +kernel) rfl (by decide) rfl rfl h dX6_sender_20 (fun h => ?_)
    refine hs_astore_n (lv' := [(3, .ref (hs_q X (25 + x1.toNatClampNeg))), (0, .ref (hs_q X 0)), (1, .int x1), (2, .int x2)]) C dX6_sender_21 rfl (by decide) rfl ?_
    refine hs_iload_n C dX6_sender_22 3 rfl rfl ?_
    rcases hs_if_s h with ⟨c_5, h⟩ | ⟨c_5, h⟩
    · skip
      refine hs_tableIn (off := 33) (tgt := 56) C dX6_sender_23 (by rw [c_5]; decide) (by rw [c_5]; decide) (by rw [c_5]; rfl) (by decide) ?_
      refine hs_aload_n C dX6_sender_56 0 rfl rfl ?_
      refine gf_X6_158 C g_4 dX6_sender_57 ?_
      exact hs_xreti C hf.1 h dX6_sender_60
    · skip
      rcases hs_if_s h with ⟨c_6, h⟩ | ⟨c_6, h⟩
      · skip
        refine hs_tableIn (off := 38) (tgt := 61) C dX6_sender_23 (by rw [c_6]; decide) (by rw [c_6]; decide) (by rw [c_6]; rfl) (by decide) ?_
        refine hs_aload_n C dX6_sender_61 0 rfl rfl ?_
        refine gf_X6_161 C g_4 dX6_sender_62 ?_
        exact hs_xreti C hf.1 h dX6_sender_65
      · skip
        rcases hs_if_s h with ⟨c_7, h⟩ | ⟨c_7, h⟩
        · skip
          refine hs_tableIn (off := 43) (tgt := 66) C dX6_sender_23 (by rw [c_7]; decide) (by rw [c_7]; decide) (by rw [c_7]; rfl) (by decide) ?_
          refine hs_aload_n C dX6_sender_66 0 rfl rfl ?_
          refine gf_X6_164 C g_4 dX6_sender_67 ?_
          exact hs_xreti C hf.1 h dX6_sender_70
        · skip
          rcases hs_if_s h with ⟨c_8, h⟩ | ⟨c_8, h⟩
          · skip
            refine hs_tableIn (off := 48) (tgt := 71) C dX6_sender_23 (by rw [c_8]; decide) (by rw [c_8]; decide) (by rw [c_8]; rfl) (by decide) ?_
            refine hs_aload_n C dX6_sender_71 0 rfl rfl ?_
            refine gf_X6_167 C g_4 dX6_sender_72 ?_
            refine gf_X6_171 C (hs_k50 g_4) dX6_sender_75 ?_
            exact hs_xreti C hf.1 h dX6_sender_78
          · skip
            rcases hs_if_s h with ⟨c_9, h⟩ | ⟨c_9, h⟩
            · skip
              refine hs_tableIn (off := 56) (tgt := 79) C dX6_sender_23 (by rw [c_9]; decide) (by rw [c_9]; decide) (by rw [c_9]; rfl) (by decide) ?_
              refine hs_aload_n C dX6_sender_79 0 rfl rfl ?_
              refine gf_X6_167 C g_4 dX6_sender_80 ?_
              refine gf_X6_176 C (hs_k50 g_4) dX6_sender_83 ?_
              exact hs_xreti C hf.1 h dX6_sender_86
            · skip
              refine hs_tableOut (tgt := 87) C dX6_sender_23 (by have e0 := lv_neT (a := 0) c_5 (by decide); have e1 := lv_neT (a := 1) c_6 (by decide); have e2 := lv_neT (a := 2) c_7 (by decide); have e3 := lv_neT (a := 3) c_8 (by decide); have e4 := lv_neT (a := 4) c_9 (by decide); omega) (by decide) ?_
              exact hs_thr (e := 2) (by decide) C hf.2 h dX6_sender_87 dX6_sender_90 dX6_sender_91 dX6_sender_94
  · skip
    exact hs_thr (e := 1) (by decide) C hf.2 h dX6_sender_7 dX6_sender_10 dX6_sender_11 dX6_sender_14
theorem m_X6_sender (a1 : Int32) (a2 : Int32) (S : hs_M) {res : (Nat × Int32) × hs_M} (h : f_X6_sender a1 a2 S = some res) : hs_metx yX6_sender cX6_sender 4 (some .int) 1 (fun q => [.ref (q 0), .int a1, .int a2]) S res :=
  hs_mkXI (by decide +kernel) rfl (fun q => Nat.le_of_ble_eq_true rfl) fun X C hf => t_X6_sender_0 C hf a1 a2 S h
set_option maxRecDepth 100000 in
set_option maxHeartbeats 4000000 in
theorem t_X6_size_0 {X : hs_T} (C : hs_C X 0 RX6 cX6_size 2 1) {res : (Nat × Int32) × hs_M} (hf : hs_FXI X cX6_size 2 res) (x1 : Int32) (S : hs_M) (h : f_X6_size_0 x1 S = some res) : hs_Z X 2 S [(0, .ref (hs_q X 0)), (1, .int x1)] [] 0 := by
  unfold f_X6_size_0 at h
  refine hs_aload_n C dX6_size_0 0 rfl rfl ?_
  refine hs_iload_n C dX6_size_1 1 rfl rfl ?_
  obtain ⟨r_3, S_1, hc_2, h⟩ := hs_b2_s h
  refine cs_X6_111 C (m_X6_isNoPacket x1 S hc_2) (by decide) (Nat.le_of_ble_eq_true rfl) dX6_size_2 ?_
  refine hs_if_eq (tgt := 16) C dX6_size_5 (by decide) h (fun h => ?_) (fun h => ?_)
  · skip
    refine hs_aload_n C dX6_size_16 0 rfl rfl ?_
    refine gf_X6_19 C dX6_size_17 ?_
    refine gf_X6_114 C dX6_size_20 ?_
    refine hs_iload_n C dX6_size_23 1 rfl rfl ?_
    refine hs_rld (kd := 10) (t0 := 1) (Cn := RX3) C rfl rfl (show hs_K 5 = 10 by decide +kernel) rfl (by decide) rfl rfl h dX6_size_24 (fun h => ?_)
    refine hs_topr h (fun p_4 h => ?_)
    obtain ⟨g_5, h⟩ := hs_kg_s h
    refine gf_X6_101 C g_5 dX6_size_25 ?_
    exact hs_xreti C hf.1 h dX6_size_28
  · skip
    exact hs_thr (e := 1) (by decide) C hf.2 h dX6_size_8 dX6_size_11 dX6_size_12 dX6_size_15
theorem m_X6_size (a1 : Int32) (S : hs_M) {res : (Nat × Int32) × hs_M} (h : f_X6_size a1 S = some res) : hs_metx yX6_size cX6_size 2 (some .int) 1 (fun q => [.ref (q 0), .int a1]) S res :=
  hs_mkXI (by decide +kernel) rfl (fun q => Nat.le_of_ble_eq_true rfl) fun X C hf => t_X6_size_0 C hf a1 S h
set_option maxRecDepth 100000 in
set_option maxHeartbeats 4000000 in
theorem t_X6_spoil_36 {X : hs_T} (C : hs_C X 0 RX6 cX6_spoil 4 1) {res : (Nat × Int32) × hs_M} (hf : hs_FXV X cX6_spoil 4 res) (S : hs_M) (h : f_X6_spoil_36  S = some res) : hs_Z X 4 S [] [] 36 := by
  unfold f_X6_spoil_36 at h
  exact hs_thr (e := 2) (by decide) C hf.2 h dX6_spoil_36 dX6_spoil_39 dX6_spoil_40 dX6_spoil_43
set_option maxRecDepth 100000 in
set_option maxHeartbeats 4000000 in
theorem t_X6_spoil_17 {X : hs_T} (C : hs_C X 0 RX6 cX6_spoil 4 1) {res : (Nat × Int32) × hs_M} (hf : hs_FXV X cX6_spoil 4 res) (S : hs_M) (h : f_X6_spoil_17  S = some res) : hs_Z X 4 S [] [] 17 := by
  unfold f_X6_spoil_17 at h
  exact hs_thr (e := 1) (by decide) C hf.2 h dX6_spoil_17 dX6_spoil_20 dX6_spoil_21 dX6_spoil_24
set_option maxRecDepth 100000 in
set_option maxHeartbeats 4000000 in
theorem t_X6_spoil_0 {X : hs_T} (C : hs_C X 0 RX6 cX6_spoil 4 1) {res : (Nat × Int32) × hs_M} (hf : hs_FXV X cX6_spoil 4 res) (x1 : Int32) (x2 : Int32) (x3 : Int32) (S : hs_M) (h : f_X6_spoil_0 x1 x2 x3 S = some res) : hs_Z X 4 S [(0, .ref (hs_q X 0)), (1, .int x1), (2, .int x2), (3, .int x3)] [] 0 := by
  unfold f_X6_spoil_0 at h
  refine hs_aload_n C dX6_spoil_0 0 rfl rfl ?_
  refine hs_iload_n C dX6_spoil_1 1 rfl rfl ?_
  obtain ⟨r_3, S_1, hc_2, h⟩ := hs_b2_s h
  refine cs_X6_111 C (m_X6_isNoPacket x1 S hc_2) (by decide) (Nat.le_of_ble_eq_true rfl) dX6_spoil_2 ?_
  refine hs_if_ne (tgt := 17) C dX6_spoil_5 (by decide) h (fun h => ?_) (fun h => ?_)
  · skip
    refine hs_sub [] rfl ?_
    exact t_X6_spoil_17 C hf   S_1 h
  · skip
    refine hs_aload_n C dX6_spoil_8 0 rfl rfl ?_
    refine hs_iload_n C dX6_spoil_9 1 rfl rfl ?_
    refine hs_iload_n C dX6_spoil_10 2 rfl rfl ?_
    obtain ⟨r_6, S_4, hc_5, h⟩ := hs_b2_s h
    refine cs_X6_118 C (m_X6_isNoByte x1 x2 S_1 hc_5) (by decide) (Nat.le_of_ble_eq_true rfl) dX6_spoil_11 ?_
    refine hs_if_eq (tgt := 25) C dX6_spoil_14 (by decide) h (fun h => ?_) (fun h => ?_)
    · skip
      refine hs_iload_n C dX6_spoil_25 3 rfl rfl ?_
      refine hs_if_lt (tgt := 36) C dX6_spoil_26 (by decide) h (fun h => ?_) (fun h => ?_)
      · skip
        refine hs_sub [] rfl ?_
        exact t_X6_spoil_36 C hf   S_4 h
      · skip
        refine hs_iload_n C dX6_spoil_29 3 rfl rfl ?_
        refine hs_sipush (v := 255) C dX6_spoil_30 (by decide) ?_
        refine hs_icmp_le (tgt := 44) C dX6_spoil_33 (by decide) h (fun h => ?_) (fun h => ?_)
        · skip
          refine hs_aload_n C dX6_spoil_44 0 rfl rfl ?_
          refine gf_X6_19 C dX6_spoil_45 ?_
          refine gf_X6_114 C dX6_spoil_48 ?_
          refine hs_iload_n C dX6_spoil_51 1 rfl rfl ?_
          refine hs_rld (kd := 10) (t0 := 1) (Cn := RX3) C rfl rfl (show hs_K 5 = 10 by decide +kernel) rfl (by decide) rfl rfl h dX6_spoil_52 (fun h => ?_)
          refine hs_topr h (fun p_7 h => ?_)
          obtain ⟨g_8, h⟩ := hs_kg_s h
          refine gf_X6_122 C g_8 dX6_spoil_53 ?_
          refine hs_iload_n C dX6_spoil_56 2 rfl rfl ?_
          refine hs_dup2 C dX6_spoil_57 rfl rfl ?_
          refine hs_ald (kd := 8) C (Or.inl rfl) rfl (hs_k30 g_8) h dX6_spoil_58 (fun h => ?_)
          refine hs_iload_n C dX6_spoil_59 3 rfl rfl ?_
          refine hs_ixor C dX6_spoil_60 ?_
          refine hs_ast (kd := 8) C (Or.inl rfl) rfl (hs_k30 g_8) h dX6_spoil_61 (fun S_9 h => ?_)
          exact hs_xretv C hf.1 h dX6_spoil_62
        · skip
          refine hs_sub [] rfl ?_
          exact t_X6_spoil_36 C hf   S_4 h
    · skip
      refine hs_sub [] rfl ?_
      exact t_X6_spoil_17 C hf   S_4 h
theorem m_X6_spoil (a1 : Int32) (a2 : Int32) (a3 : Int32) (S : hs_M) {res : (Nat × Int32) × hs_M} (h : f_X6_spoil a1 a2 a3 S = some res) : hs_metx yX6_spoil cX6_spoil 4 none 1 (fun q => [.ref (q 0), .int a1, .int a2, .int a3]) S res :=
  hs_mkXV (by decide +kernel) rfl (fun q => Nat.le_of_ble_eq_true rfl) fun X C hf => t_X6_spoil_0 C hf a1 a2 a3 S h
set_option maxRecDepth 100000 in
set_option maxHeartbeats 4000000 in
theorem t_X6_stride_0 {X : hs_T} (C : hs_C X 0 RX6 cX6_stride 3 1) {res : (Nat × Int32) × hs_M} (hf : hs_FXV X cX6_stride 3 res) (x1 : Int32) (x2 : Int32) (S : hs_M) (h : f_X6_stride_0 x1 x2 S = some res) : hs_Z X 3 S [(0, .ref (hs_q X 0)), (1, .int x1), (2, .int x2)] [] 0 := by
  unfold f_X6_stride_0 at h
  refine hs_iload_n C dX6_stride_0 1 rfl rfl ?_
  obtain ⟨r_3, S_1, hc_2, h⟩ := hs_b2_s h
  refine cs_X6_47 C (m_X6_isNoFlow x1 S hc_2) (by decide) (Nat.le_of_ble_eq_true rfl) dX6_stride_1 ?_
  refine hs_if_eq (tgt := 15) C dX6_stride_4 (by decide) h (fun h => ?_) (fun h => ?_)
  · skip
    refine hs_iload_n C dX6_stride_15 2 rfl rfl ?_
    obtain ⟨r_6, S_4, hc_5, h⟩ := hs_b2_s h
    refine cs_X6_54 C (m_X6_isNotInTwoBytes x2 S_1 hc_5) (by decide) (Nat.le_of_ble_eq_true rfl) dX6_stride_16 ?_
    refine hs_if_eq (tgt := 30) C dX6_stride_19 (by decide) h (fun h => ?_) (fun h => ?_)
    · skip
      refine hs_aload_n C dX6_stride_30 0 rfl rfl ?_
      refine gf_X6_25 C dX6_stride_31 ?_
      refine hs_iload_n C dX6_stride_34 1 rfl rfl ?_
      have g_7 := hs_k12 (hs_ix_s h).1
      refine hs_rld (kd := 12) (t0 := 3) (Cn := RX5) (tgt := 25 + x1.toNatClampNeg) C rfl rfl (show hs_K 24 = 12 by decide +kernel) rfl (by decide) rfl rfl h dX6_stride_35 (fun h => ?_)
      refine hs_iload_n C dX6_stride_36 2 rfl rfl ?_
      refine pf_X6_60 C g_7 h dX6_stride_37 (fun S_8 h => ?_)
      exact hs_xretv C hf.1 h dX6_stride_40
    · skip
      exact hs_thr (e := 2) (by decide) C hf.2 h dX6_stride_22 dX6_stride_25 dX6_stride_26 dX6_stride_29
  · skip
    exact hs_thr (e := 1) (by decide) C hf.2 h dX6_stride_7 dX6_stride_10 dX6_stride_11 dX6_stride_14
theorem m_X6_stride (a1 : Int32) (a2 : Int32) (S : hs_M) {res : (Nat × Int32) × hs_M} (h : f_X6_stride a1 a2 S = some res) : hs_metx yX6_stride cX6_stride 3 none 1 (fun q => [.ref (q 0), .int a1, .int a2]) S res :=
  hs_mkXV (by decide +kernel) rfl (fun q => Nat.le_of_ble_eq_true rfl) fun X C hf => t_X6_stride_0 C hf a1 a2 S h
