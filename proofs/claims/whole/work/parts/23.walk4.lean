set_option maxRecDepth 100000 in
set_option maxHeartbeats 4000000 in
theorem t_X7_backOf_19 {X : hs_T} (C : hs_C X 1 RX7 cX7_backOf 2 0) {res : Int32 × hs_M} (hf : hs_FI X cX7_backOf res) (y0 : Int32) (S : hs_M) (h : f_X7_backOf_19 y0 S = some res) : hs_Z X 2 S [] [.int y0] 19 := by
  unfold f_X7_backOf_19 at h
  exact hs_ireti C hf h dX7_backOf_19
set_option maxRecDepth 100000 in
set_option maxHeartbeats 4000000 in
theorem t_X7_backOf_0 {X : hs_T} (C : hs_C X 1 RX7 cX7_backOf 2 0) {res : Int32 × hs_M} (hf : hs_FI X cX7_backOf res) (x1 : Int32) (S : hs_M) (h : f_X7_backOf_0 x1 S = some res) : hs_Z X 2 S [(1, .int x1)] [] 0 := by
  unfold f_X7_backOf_0 at h
  refine hs_iload_n C dX7_backOf_0 0 rfl rfl ?_
  refine hs_if_ne (tgt := 8) C dX7_backOf_1 (by decide) h (fun h => ?_) (fun h => ?_)
  · skip
    refine hs_iload_n C dX7_backOf_8 0 rfl rfl ?_
    refine hs_iconst (v := 1) C dX7_backOf_9 (by decide) ?_
    refine hs_icmp_ne (tgt := 17) C dX7_backOf_10 (by decide) h (fun h => ?_) (fun h => ?_)
    · skip
      refine hs_bipush (v := 31) C dX7_backOf_17 (by decide) ?_
      refine hs_sub [] rfl ?_
      exact t_X7_backOf_19 C hf  (31 : Int32) S h
    · skip
      refine hs_iconst (v := 3) C dX7_backOf_13 (by decide) ?_
      refine hs_goto (tgt := 19) C dX7_backOf_14 (by decide) ?_
      refine hs_sub [] rfl ?_
      exact t_X7_backOf_19 C hf  (3 : Int32) S h
  · skip
    refine hs_iconst (v := 1) C dX7_backOf_4 (by decide) ?_
    refine hs_goto (tgt := 19) C dX7_backOf_5 (by decide) ?_
    refine hs_sub [] rfl ?_
    exact t_X7_backOf_19 C hf  (1 : Int32) S h
theorem m_X7_backOf (a1 : Int32) (S : hs_M) {r : Int32} {S' : hs_M} (h : f_X7_backOf a1 S = some (r, S')) : hs_met 1 yX7_backOf cX7_backOf 2 (some .int) 0 (fun q => [.ref (q 100), .int a1]) S (fun q => some (.int r)) S' :=
  hs_mkI (res := (r, S')) (by decide +kernel) (by decide) (fun q => Nat.le_of_ble_eq_true rfl) fun X C hf => hs_sub [1] rfl (t_X7_backOf_0 C hf a1 S h)
set_option maxRecDepth 100000 in
set_option maxHeartbeats 4000000 in
theorem t_X7_bitsOf_20 {X : hs_T} (C : hs_C X 1 RX7 cX7_bitsOf 2 0) {res : Int32 × hs_M} (hf : hs_FI X cX7_bitsOf res) (y0 : Int32) (S : hs_M) (h : f_X7_bitsOf_20 y0 S = some res) : hs_Z X 2 S [] [.int y0] 20 := by
  unfold f_X7_bitsOf_20 at h
  exact hs_ireti C hf h dX7_bitsOf_20
set_option maxRecDepth 100000 in
set_option maxHeartbeats 4000000 in
theorem t_X7_bitsOf_0 {X : hs_T} (C : hs_C X 1 RX7 cX7_bitsOf 2 0) {res : Int32 × hs_M} (hf : hs_FI X cX7_bitsOf res) (x1 : Int32) (S : hs_M) (h : f_X7_bitsOf_0 x1 S = some res) : hs_Z X 2 S [(1, .int x1)] [] 0 := by
  unfold f_X7_bitsOf_0 at h
  refine hs_iload_n C dX7_bitsOf_0 0 rfl rfl ?_
  refine hs_if_ne (tgt := 8) C dX7_bitsOf_1 (by decide) h (fun h => ?_) (fun h => ?_)
  · skip
    refine hs_iload_n C dX7_bitsOf_8 0 rfl rfl ?_
    refine hs_iconst (v := 1) C dX7_bitsOf_9 (by decide) ?_
    refine hs_icmp_ne (tgt := 18) C dX7_bitsOf_10 (by decide) h (fun h => ?_) (fun h => ?_)
    · skip
      refine hs_bipush (v := 10) C dX7_bitsOf_18 (by decide) ?_
      refine hs_sub [] rfl ?_
      exact t_X7_bitsOf_20 C hf  (10 : Int32) S h
    · skip
      refine hs_bipush (v := 6) C dX7_bitsOf_13 (by decide) ?_
      refine hs_goto (tgt := 20) C dX7_bitsOf_15 (by decide) ?_
      refine hs_sub [] rfl ?_
      exact t_X7_bitsOf_20 C hf  (6 : Int32) S h
  · skip
    refine hs_iconst (v := 4) C dX7_bitsOf_4 (by decide) ?_
    refine hs_goto (tgt := 20) C dX7_bitsOf_5 (by decide) ?_
    refine hs_sub [] rfl ?_
    exact t_X7_bitsOf_20 C hf  (4 : Int32) S h
theorem m_X7_bitsOf (a1 : Int32) (S : hs_M) {r : Int32} {S' : hs_M} (h : f_X7_bitsOf a1 S = some (r, S')) : hs_met 1 yX7_bitsOf cX7_bitsOf 2 (some .int) 0 (fun q => [.ref (q 100), .int a1]) S (fun q => some (.int r)) S' :=
  hs_mkI (res := (r, S')) (by decide +kernel) (by decide) (fun q => Nat.le_of_ble_eq_true rfl) fun X C hf => hs_sub [1] rfl (t_X7_bitsOf_0 C hf a1 S h)
set_option maxRecDepth 100000 in
set_option maxHeartbeats 4000000 in
theorem t_X7_sizeOf_38 {X : hs_T} (C : hs_C X 1 RX7 cX7_sizeOf 2 0) {res : Int32 × hs_M} (hf : hs_FI X cX7_sizeOf res) (y0 : Int32) (S : hs_M) (h : f_X7_sizeOf_38 y0 S = some res) : hs_Z X 2 S [] [.int y0] 38 := by
  unfold f_X7_sizeOf_38 at h
  exact hs_ireti C hf h dX7_sizeOf_38
set_option maxRecDepth 100000 in
set_option maxHeartbeats 4000000 in
theorem t_X7_sizeOf_0 {X : hs_T} (C : hs_C X 1 RX7 cX7_sizeOf 2 0) {res : Int32 × hs_M} (hf : hs_FI X cX7_sizeOf res) (x1 : Int32) (S : hs_M) (h : f_X7_sizeOf_0 x1 S = some res) : hs_Z X 2 S [(1, .int x1)] [] 0 := by
  unfold f_X7_sizeOf_0 at h
  refine hs_iload_n C dX7_sizeOf_0 0 rfl rfl ?_
  refine hs_if_ne (tgt := 8) C dX7_sizeOf_1 (by decide) h (fun h => ?_) (fun h => ?_)
  · skip
    refine hs_iload_n C dX7_sizeOf_8 0 rfl rfl ?_
    refine hs_iconst (v := 1) C dX7_sizeOf_9 (by decide) ?_
    refine hs_icmp_ne (tgt := 17) C dX7_sizeOf_10 (by decide) h (fun h => ?_) (fun h => ?_)
    · skip
      refine hs_iload_n C dX7_sizeOf_17 0 rfl rfl ?_
      refine hs_iconst (v := 2) C dX7_sizeOf_18 (by decide) ?_
      refine hs_icmp_ne (tgt := 26) C dX7_sizeOf_19 (by decide) h (fun h => ?_) (fun h => ?_)
      · skip
        refine hs_iload_n C dX7_sizeOf_26 0 rfl rfl ?_
        refine hs_iconst (v := 3) C dX7_sizeOf_27 (by decide) ?_
        refine hs_icmp_ne (tgt := 36) C dX7_sizeOf_28 (by decide) h (fun h => ?_) (fun h => ?_)
        · skip
          refine hs_bipush (v := 16) C dX7_sizeOf_36 (by decide) ?_
          refine hs_sub [] rfl ?_
          exact t_X7_sizeOf_38 C hf  (16 : Int32) S h
        · skip
          refine hs_bipush (v := 11) C dX7_sizeOf_31 (by decide) ?_
          refine hs_goto (tgt := 38) C dX7_sizeOf_33 (by decide) ?_
          refine hs_sub [] rfl ?_
          exact t_X7_sizeOf_38 C hf  (11 : Int32) S h
      · skip
        refine hs_iconst (v := 3) C dX7_sizeOf_22 (by decide) ?_
        refine hs_goto (tgt := 38) C dX7_sizeOf_23 (by decide) ?_
        refine hs_sub [] rfl ?_
        exact t_X7_sizeOf_38 C hf  (3 : Int32) S h
    · skip
      refine hs_iconst (v := 2) C dX7_sizeOf_13 (by decide) ?_
      refine hs_goto (tgt := 38) C dX7_sizeOf_14 (by decide) ?_
      refine hs_sub [] rfl ?_
      exact t_X7_sizeOf_38 C hf  (2 : Int32) S h
  · skip
    refine hs_iconst (v := 1) C dX7_sizeOf_4 (by decide) ?_
    refine hs_goto (tgt := 38) C dX7_sizeOf_5 (by decide) ?_
    refine hs_sub [] rfl ?_
    exact t_X7_sizeOf_38 C hf  (1 : Int32) S h
theorem m_X7_sizeOf (a1 : Int32) (S : hs_M) {r : Int32} {S' : hs_M} (h : f_X7_sizeOf a1 S = some (r, S')) : hs_met 1 yX7_sizeOf cX7_sizeOf 2 (some .int) 0 (fun q => [.ref (q 100), .int a1]) S (fun q => some (.int r)) S' :=
  hs_mkI (res := (r, S')) (by decide +kernel) (by decide) (fun q => Nat.le_of_ble_eq_true rfl) fun X C hf => hs_sub [1] rfl (t_X7_sizeOf_0 C hf a1 S h)
set_option maxRecDepth 100000 in
set_option maxHeartbeats 4000000 in
theorem t_X7_broken_107 {X : hs_T} (C : hs_C X 1 RX7 cX7_broken 3 1) {res : Int32 × hs_M} (hf : hs_FB X cX7_broken res) (y0 : Int32) (S : hs_M) (h : f_X7_broken_107 y0 S = some res) : hs_Z X 3 S [] [.int y0] 107 := by
  unfold f_X7_broken_107 at h
  exact hs_iretb C hf h dX7_broken_107
set_option maxRecDepth 100000 in
set_option maxHeartbeats 4000000 in
theorem t_X7_broken_106 {X : hs_T} (C : hs_C X 1 RX7 cX7_broken 3 1) {res : Int32 × hs_M} (hf : hs_FB X cX7_broken res) (S : hs_M) (h : f_X7_broken_106  S = some res) : hs_Z X 3 S [] [] 106 := by
  unfold f_X7_broken_106 at h
  refine hs_iconst (v := 0) C dX7_broken_106 (by decide) ?_
  exact t_X7_broken_107 C hf  (0 : Int32) S h
set_option maxRecDepth 100000 in
set_option maxHeartbeats 4000000 in
theorem t_X7_broken_102 {X : hs_T} (C : hs_C X 1 RX7 cX7_broken 3 1) {res : Int32 × hs_M} (hf : hs_FB X cX7_broken res) (S : hs_M) (h : f_X7_broken_102  S = some res) : hs_Z X 3 S [] [] 102 := by
  unfold f_X7_broken_102 at h
  refine hs_iconst (v := 1) C dX7_broken_102 (by decide) ?_
  refine hs_goto (tgt := 107) C dX7_broken_103 (by decide) ?_
  exact t_X7_broken_107 C hf  (1 : Int32) S h
set_option maxRecDepth 100000 in
set_option maxHeartbeats 4000000 in
theorem t_X7_broken_68 {X : hs_T} (C : hs_C X 1 RX7 cX7_broken 3 1) {res : Int32 × hs_M} (hf : hs_FB X cX7_broken res) (y0 : Int32) (S : hs_M) (h : f_X7_broken_68 y0 S = some res) : hs_Z X 3 S [] [.int y0] 68 := by
  unfold f_X7_broken_68 at h
  exact hs_iretb C hf h dX7_broken_68
set_option maxRecDepth 100000 in
set_option maxHeartbeats 4000000 in
theorem t_X7_broken_43 {X : hs_T} (C : hs_C X 1 RX7 cX7_broken 3 1) {res : Int32 × hs_M} (hf : hs_FB X cX7_broken res) (y0 : Int32) (S : hs_M) (h : f_X7_broken_43 y0 S = some res) : hs_Z X 3 S [] [.int y0] 43 := by
  unfold f_X7_broken_43 at h
  exact hs_iretb C hf h dX7_broken_43
set_option maxRecDepth 100000 in
set_option maxHeartbeats 4000000 in
theorem t_X7_broken_18 {X : hs_T} (C : hs_C X 1 RX7 cX7_broken 3 1) {res : Int32 × hs_M} (hf : hs_FB X cX7_broken res) (S : hs_M) (h : f_X7_broken_18  S = some res) : hs_Z X 3 S [] [] 18 := by
  unfold f_X7_broken_18 at h
  refine hs_iconst (v := 1) C dX7_broken_18 (by decide) ?_
  exact hs_iretb C hf h dX7_broken_19
set_option maxRecDepth 100000 in
set_option maxHeartbeats 4000000 in
theorem t_X7_broken_0 {X : hs_T} (C : hs_C X 1 RX7 cX7_broken 3 1) {res : Int32 × hs_M} (hf : hs_FB X cX7_broken res) (x1 : Int32) (x2 : Int32) (S : hs_M) (h : f_X7_broken_0 x1 x2 S = some res) : hs_Z X 3 S [(0, .ref (hs_q X 100)), (1, .int x1), (2, .int x2)] [] 0 := by
  unfold f_X7_broken_0 at h
  refine hs_iload_n C dX7_broken_0 1 rfl rfl ?_
  refine hs_if_lt (tgt := 18) C dX7_broken_1 (by decide) h (fun h => ?_) (fun h => ?_)
  · skip
    refine hs_sub [] rfl ?_
    exact t_X7_broken_18 C hf   S h
  · skip
    refine hs_aload_n C dX7_broken_4 0 rfl rfl ?_
    refine gf_X7_121 C dX7_broken_5 ?_
    refine hs_iload_n C dX7_broken_8 2 rfl rfl ?_
    refine hs_isub C dX7_broken_9 ?_
    refine hs_aload_n C dX7_broken_10 0 rfl rfl ?_
    refine hs_iload_n C dX7_broken_11 1 rfl rfl ?_
    obtain ⟨r_3, S_1, hc_2, h⟩ := hs_b2_s h
    refine cs_X7_167 C (m_X7_sizeOf x1 S hc_2) (by decide) (Nat.le_of_ble_eq_true rfl) dX7_broken_12 ?_
    refine hs_icmp_eq (tgt := 20) C dX7_broken_15 (by decide) h (fun h => ?_) (fun h => ?_)
    · skip
      refine hs_iload_n C dX7_broken_20 1 rfl rfl ?_
      refine hs_iconst (v := 2) C dX7_broken_21 (by decide) ?_
      refine hs_icmp_ne (tgt := 44) C dX7_broken_22 (by decide) h (fun h => ?_) (fun h => ?_)
      · skip
        refine hs_iload_n C dX7_broken_44 1 rfl rfl ?_
        refine hs_iconst (v := 3) C dX7_broken_45 (by decide) ?_
        refine hs_icmp_ne (tgt := 69) C dX7_broken_46 (by decide) h (fun h => ?_) (fun h => ?_)
        · skip
          refine hs_iload_n C dX7_broken_69 1 rfl rfl ?_
          refine hs_iconst (v := 4) C dX7_broken_70 (by decide) ?_
          refine hs_icmp_ne (tgt := 106) C dX7_broken_71 (by decide) h (fun h => ?_) (fun h => ?_)
          · skip
            refine hs_sub [] rfl ?_
            exact t_X7_broken_106 C hf   S_1 h
          · skip
            refine hs_aload_n C dX7_broken_74 0 rfl rfl ?_
            refine gf_X7_89 C dX7_broken_75 ?_
            refine hs_iload_n C dX7_broken_78 2 rfl rfl ?_
            refine hs_bipush (v := 6) C dX7_broken_79 (by decide) ?_
            refine hs_iadd C dX7_broken_81 ?_
            refine hs_top h (fun x_4 h => ?_)
            refine hs_ald (kd := 14) C (Or.inr rfl) rfl (show hs_K 127 = 14 by decide +kernel) h dX7_broken_82 (fun h => ?_)
            refine hs_bipush (v := 127) C dX7_broken_83 (by decide) ?_
            refine hs_iand C dX7_broken_85 ?_
            refine hs_if_ne (tgt := 102) C dX7_broken_86 (by decide) h (fun h => ?_) (fun h => ?_)
            · skip
              refine hs_sub [] rfl ?_
              exact t_X7_broken_102 C hf   S_1 h
            · skip
              refine hs_aload_n C dX7_broken_89 0 rfl rfl ?_
              refine gf_X7_89 C dX7_broken_90 ?_
              refine hs_iload_n C dX7_broken_93 2 rfl rfl ?_
              refine hs_iconst (v := 3) C dX7_broken_94 (by decide) ?_
              refine hs_iadd C dX7_broken_95 ?_
              refine hs_top h (fun x_5 h => ?_)
              refine hs_ald (kd := 14) C (Or.inr rfl) rfl (show hs_K 127 = 14 by decide +kernel) h dX7_broken_96 (fun h => ?_)
              refine hs_bipush (v := 127) C dX7_broken_97 (by decide) ?_
              refine hs_icmp_le (tgt := 106) C dX7_broken_99 (by decide) h (fun h => ?_) (fun h => ?_)
              · skip
                refine hs_sub [] rfl ?_
                exact t_X7_broken_106 C hf   S_1 h
              · skip
                refine hs_sub [] rfl ?_
                exact t_X7_broken_102 C hf   S_1 h
        · skip
          refine hs_aload_n C dX7_broken_49 0 rfl rfl ?_
          refine gf_X7_89 C dX7_broken_50 ?_
          refine hs_iload_n C dX7_broken_53 2 rfl rfl ?_
          refine hs_iconst (v := 1) C dX7_broken_54 (by decide) ?_
          refine hs_iadd C dX7_broken_55 ?_
          refine hs_top h (fun x_6 h => ?_)
          refine hs_ald (kd := 14) C (Or.inr rfl) rfl (show hs_K 127 = 14 by decide +kernel) h dX7_broken_56 (fun h => ?_)
          refine hs_bipush (v := 127) C dX7_broken_57 (by decide) ?_
          refine hs_iand C dX7_broken_59 ?_
          refine hs_if_eq (tgt := 67) C dX7_broken_60 (by decide) h (fun h => ?_) (fun h => ?_)
          · skip
            refine hs_iconst (v := 0) C dX7_broken_67 (by decide) ?_
            refine hs_sub [] rfl ?_
            exact t_X7_broken_68 C hf  (0 : Int32) S_1 h
          · skip
            refine hs_iconst (v := 1) C dX7_broken_63 (by decide) ?_
            refine hs_goto (tgt := 68) C dX7_broken_64 (by decide) ?_
            refine hs_sub [] rfl ?_
            exact t_X7_broken_68 C hf  (1 : Int32) S_1 h
      · skip
        refine hs_aload_n C dX7_broken_25 0 rfl rfl ?_
        refine gf_X7_89 C dX7_broken_26 ?_
        refine hs_iload_n C dX7_broken_29 2 rfl rfl ?_
        refine hs_iconst (v := 1) C dX7_broken_30 (by decide) ?_
        refine hs_iadd C dX7_broken_31 ?_
        refine hs_top h (fun x_7 h => ?_)
        refine hs_ald (kd := 14) C (Or.inr rfl) rfl (show hs_K 127 = 14 by decide +kernel) h dX7_broken_32 (fun h => ?_)
        refine hs_iconst (v := 3) C dX7_broken_33 (by decide) ?_
        refine hs_iand C dX7_broken_34 ?_
        refine hs_if_eq (tgt := 42) C dX7_broken_35 (by decide) h (fun h => ?_) (fun h => ?_)
        · skip
          refine hs_iconst (v := 0) C dX7_broken_42 (by decide) ?_
          refine hs_sub [] rfl ?_
          exact t_X7_broken_43 C hf  (0 : Int32) S_1 h
        · skip
          refine hs_iconst (v := 1) C dX7_broken_38 (by decide) ?_
          refine hs_goto (tgt := 43) C dX7_broken_39 (by decide) ?_
          refine hs_sub [] rfl ?_
          exact t_X7_broken_43 C hf  (1 : Int32) S_1 h
    · skip
      refine hs_sub [] rfl ?_
      exact t_X7_broken_18 C hf   S_1 h
theorem m_X7_broken (a1 : Int32) (a2 : Int32) (S : hs_M) {r : Int32} {S' : hs_M} (h : f_X7_broken a1 a2 S = some (r, S')) : hs_met 1 yX7_broken cX7_broken 3 (some .boolean) 1 (fun q => [.ref (q 100), .int a1, .int a2]) S (fun q => some (.int r)) S' :=
  hs_mkB (res := (r, S')) (by decide +kernel) (by decide) (fun q => Nat.le_of_ble_eq_true rfl) fun X C hf => (t_X7_broken_0 C hf a1 a2 S h)
set_option maxRecDepth 100000 in
set_option maxHeartbeats 4000000 in
theorem t_X7_noPacket_17 {X : hs_T} (C : hs_C X 1 RX7 cX7_noPacket 2 0) {res : Int32 × hs_M} (hf : hs_FB X cX7_noPacket res) (y0 : Int32) (S : hs_M) (h : f_X7_noPacket_17 y0 S = some res) : hs_Z X 2 S [] [.int y0] 17 := by
  unfold f_X7_noPacket_17 at h
  exact hs_iretb C hf h dX7_noPacket_17
set_option maxRecDepth 100000 in
set_option maxHeartbeats 4000000 in
theorem t_X7_noPacket_12 {X : hs_T} (C : hs_C X 1 RX7 cX7_noPacket 2 0) {res : Int32 × hs_M} (hf : hs_FB X cX7_noPacket res) (S : hs_M) (h : f_X7_noPacket_12  S = some res) : hs_Z X 2 S [] [] 12 := by
  unfold f_X7_noPacket_12 at h
  refine hs_iconst (v := 1) C dX7_noPacket_12 (by decide) ?_
  refine hs_goto (tgt := 17) C dX7_noPacket_13 (by decide) ?_
  exact t_X7_noPacket_17 C hf  (1 : Int32) S h
set_option maxRecDepth 100000 in
set_option maxHeartbeats 4000000 in
theorem t_X7_noPacket_0 {X : hs_T} (C : hs_C X 1 RX7 cX7_noPacket 2 0) {res : Int32 × hs_M} (hf : hs_FB X cX7_noPacket res) (x1 : Int32) (S : hs_M) (h : f_X7_noPacket_0 x1 S = some res) : hs_Z X 2 S [(0, .ref (hs_q X 100)), (1, .int x1)] [] 0 := by
  unfold f_X7_noPacket_0 at h
  refine hs_iload_n C dX7_noPacket_0 1 rfl rfl ?_
  refine hs_if_lt (tgt := 12) C dX7_noPacket_1 (by decide) h (fun h => ?_) (fun h => ?_)
  · skip
    refine hs_sub [] rfl ?_
    exact t_X7_noPacket_12 C hf   S h
  · skip
    refine hs_iload_n C dX7_noPacket_4 1 rfl rfl ?_
    refine hs_aload_n C dX7_noPacket_5 0 rfl rfl ?_
    refine gf_X7_154 C dX7_noPacket_6 ?_
    refine hs_icmp_lt (tgt := 16) C dX7_noPacket_9 (by decide) h (fun h => ?_) (fun h => ?_)
    · skip
      refine hs_iconst (v := 0) C dX7_noPacket_16 (by decide) ?_
      refine hs_sub [] rfl ?_
      exact t_X7_noPacket_17 C hf  (0 : Int32) S h
    · skip
      refine hs_sub [] rfl ?_
      exact t_X7_noPacket_12 C hf   S h
theorem m_X7_noPacket (a1 : Int32) (S : hs_M) {r : Int32} {S' : hs_M} (h : f_X7_noPacket a1 S = some (r, S')) : hs_met 1 yX7_noPacket cX7_noPacket 2 (some .boolean) 0 (fun q => [.ref (q 100), .int a1]) S (fun q => some (.int r)) S' :=
  hs_mkB (res := (r, S')) (by decide +kernel) (by decide) (fun q => Nat.le_of_ble_eq_true rfl) fun X C hf => (t_X7_noPacket_0 C hf a1 S h)
set_option maxRecDepth 100000 in
set_option maxHeartbeats 4000000 in
theorem t_X7_noByte_27 {X : hs_T} (C : hs_C X 1 RX7 cX7_noByte 3 1) {res : Int32 × hs_M} (hf : hs_FB X cX7_noByte res) (y0 : Int32) (S : hs_M) (h : f_X7_noByte_27 y0 S = some res) : hs_Z X 3 S [] [.int y0] 27 := by
  unfold f_X7_noByte_27 at h
  exact hs_iretb C hf h dX7_noByte_27
set_option maxRecDepth 100000 in
set_option maxHeartbeats 4000000 in
theorem t_X7_noByte_22 {X : hs_T} (C : hs_C X 1 RX7 cX7_noByte 3 1) {res : Int32 × hs_M} (hf : hs_FB X cX7_noByte res) (S : hs_M) (h : f_X7_noByte_22  S = some res) : hs_Z X 3 S [] [] 22 := by
  unfold f_X7_noByte_22 at h
  refine hs_iconst (v := 1) C dX7_noByte_22 (by decide) ?_
  refine hs_goto (tgt := 27) C dX7_noByte_23 (by decide) ?_
  exact t_X7_noByte_27 C hf  (1 : Int32) S h
set_option maxRecDepth 100000 in
set_option maxHeartbeats 4000000 in
theorem t_X7_noByte_0 {X : hs_T} (C : hs_C X 1 RX7 cX7_noByte 3 1) {res : Int32 × hs_M} (hf : hs_FB X cX7_noByte res) (x1 : Int32) (x2 : Int32) (S : hs_M) (h : f_X7_noByte_0 x1 x2 S = some res) : hs_Z X 3 S [(0, .ref (hs_q X 100)), (1, .int x1), (2, .int x2)] [] 0 := by
  unfold f_X7_noByte_0 at h
  refine hs_aload_n C dX7_noByte_0 0 rfl rfl ?_
  refine hs_iload_n C dX7_noByte_1 1 rfl rfl ?_
  obtain ⟨r_3, S_1, hc_2, h⟩ := hs_b2_s h
  refine cs_X7_157 C (m_X7_noPacket x1 S hc_2) (by decide) (Nat.le_of_ble_eq_true rfl) dX7_noByte_2 ?_
  refine hs_if_ne (tgt := 22) C dX7_noByte_5 (by decide) h (fun h => ?_) (fun h => ?_)
  · skip
    refine hs_sub [] rfl ?_
    exact t_X7_noByte_22 C hf   S_1 h
  · skip
    refine hs_iload_n C dX7_noByte_8 2 rfl rfl ?_
    refine hs_if_lt (tgt := 22) C dX7_noByte_9 (by decide) h (fun h => ?_) (fun h => ?_)
    · skip
      refine hs_sub [] rfl ?_
      exact t_X7_noByte_22 C hf   S_1 h
    · skip
      refine hs_iload_n C dX7_noByte_12 2 rfl rfl ?_
      refine hs_aload_n C dX7_noByte_13 0 rfl rfl ?_
      refine gf_X7_47 C dX7_noByte_14 ?_
      refine hs_iload_n C dX7_noByte_17 1 rfl rfl ?_
      refine hs_ald (kd := 14) C (Or.inr rfl) rfl (show hs_K 113 = 14 by decide +kernel) h dX7_noByte_18 (fun h => ?_)
      refine hs_icmp_lt (tgt := 26) C dX7_noByte_19 (by decide) h (fun h => ?_) (fun h => ?_)
      · skip
        refine hs_iconst (v := 0) C dX7_noByte_26 (by decide) ?_
        refine hs_sub [] rfl ?_
        exact t_X7_noByte_27 C hf  (0 : Int32) S_1 h
      · skip
        refine hs_sub [] rfl ?_
        exact t_X7_noByte_22 C hf   S_1 h
theorem m_X7_noByte (a1 : Int32) (a2 : Int32) (S : hs_M) {r : Int32} {S' : hs_M} (h : f_X7_noByte a1 a2 S = some (r, S')) : hs_met 1 yX7_noByte cX7_noByte 3 (some .boolean) 1 (fun q => [.ref (q 100), .int a1, .int a2]) S (fun q => some (.int r)) S' :=
  hs_mkB (res := (r, S')) (by decide +kernel) (by decide) (fun q => Nat.le_of_ble_eq_true rfl) fun X C hf => (t_X7_noByte_0 C hf a1 a2 S h)
set_option maxRecDepth 100000 in
set_option maxHeartbeats 4000000 in
theorem t_X7_byteAt_40 {X : hs_T} (C : hs_C X 1 RX7 cX7_byteAt 3 2) {res : Int32 × hs_M} (hf : hs_FI X cX7_byteAt res) (y0 : Int32) (S : hs_M) (h : f_X7_byteAt_40 y0 S = some res) : hs_Z X 3 S [] [.int y0] 40 := by
  unfold f_X7_byteAt_40 at h
  exact hs_ireti C hf h dX7_byteAt_40
set_option maxRecDepth 100000 in
set_option maxHeartbeats 4000000 in
theorem t_X7_byteAt_15 {X : hs_T} (C : hs_C X 1 RX7 cX7_byteAt 3 2) {res : Int32 × hs_M} (hf : hs_FI X cX7_byteAt res) (x1 : Int32) (x2 : Int32) (y1 : Int32) (S : hs_M) (h : f_X7_byteAt_15 x1 x2 y1 S = some res) : hs_Z X 3 S [(0, .ref (hs_q X 100)), (1, .int x1), (2, .int x2)] [.int y1, .ref (hs_q X 100)] 15 := by
  unfold f_X7_byteAt_15 at h
  refine pf_X7_92 C h dX7_byteAt_15 (fun S_1 h => ?_)
  refine hs_aload_n C dX7_byteAt_18 0 rfl rfl ?_
  refine gf_X7_92 C dX7_byteAt_19 ?_
  refine hs_if_ne (tgt := 39) C dX7_byteAt_22 (by decide) h (fun h => ?_) (fun h => ?_)
  · skip
    refine hs_iconst (v := 0) C dX7_byteAt_39 (by decide) ?_
    refine hs_sub [] rfl ?_
    exact t_X7_byteAt_40 C hf  (0 : Int32) S_1 h
  · skip
    refine hs_aload_n C dX7_byteAt_25 0 rfl rfl ?_
    refine gf_X7_50 C dX7_byteAt_26 ?_
    refine hs_bipush (v := 20) C dX7_byteAt_29 (by decide) ?_
    refine hs_iload_n C dX7_byteAt_31 1 rfl rfl ?_
    refine hs_imul C dX7_byteAt_32 ?_
    refine hs_iload_n C dX7_byteAt_33 2 rfl rfl ?_
    refine hs_iadd C dX7_byteAt_34 ?_
    refine hs_top h (fun x_2 h => ?_)
    refine hs_ald (kd := 14) C (Or.inr rfl) rfl (show hs_K 114 = 14 by decide +kernel) h dX7_byteAt_35 (fun h => ?_)
    refine hs_goto (tgt := 40) C dX7_byteAt_36 (by decide) ?_
    refine hs_sub [] rfl ?_
    exact t_X7_byteAt_40 C hf  (S_1 114 x_2.toNatClampNeg) S_1 h
set_option maxRecDepth 100000 in
set_option maxHeartbeats 4000000 in
theorem t_X7_byteAt_0 {X : hs_T} (C : hs_C X 1 RX7 cX7_byteAt 3 2) {res : Int32 × hs_M} (hf : hs_FI X cX7_byteAt res) (x1 : Int32) (x2 : Int32) (S : hs_M) (h : f_X7_byteAt_0 x1 x2 S = some res) : hs_Z X 3 S [(0, .ref (hs_q X 100)), (1, .int x1), (2, .int x2)] [] 0 := by
  unfold f_X7_byteAt_0 at h
  refine hs_aload_n C dX7_byteAt_0 0 rfl rfl ?_
  refine hs_aload_n C dX7_byteAt_1 0 rfl rfl ?_
  refine hs_iload_n C dX7_byteAt_2 1 rfl rfl ?_
  refine hs_iload_n C dX7_byteAt_3 2 rfl rfl ?_
  obtain ⟨r_3, S_1, hc_2, h⟩ := hs_b2_s h
  refine cs_X7_160 C (m_X7_noByte x1 x2 S hc_2) (by decide) (Nat.le_of_ble_eq_true rfl) dX7_byteAt_4 ?_
  refine hs_if_eq (tgt := 14) C dX7_byteAt_7 (by decide) h (fun h => ?_) (fun h => ?_)
  · skip
    refine hs_iconst (v := 0) C dX7_byteAt_14 (by decide) ?_
    exact t_X7_byteAt_15 C hf  x1 x2 (0 : Int32) S_1 h
  · skip
    refine hs_iconst (v := 1) C dX7_byteAt_10 (by decide) ?_
    refine hs_goto (tgt := 15) C dX7_byteAt_11 (by decide) ?_
    exact t_X7_byteAt_15 C hf  x1 x2 (1 : Int32) S_1 h
theorem m_X7_byteAt (a1 : Int32) (a2 : Int32) (S : hs_M) {r : Int32} {S' : hs_M} (h : f_X7_byteAt a1 a2 S = some (r, S')) : hs_met 1 yX7_byteAt cX7_byteAt 3 (some .int) 2 (fun q => [.ref (q 100), .int a1, .int a2]) S (fun q => some (.int r)) S' :=
  hs_mkI (res := (r, S')) (by decide +kernel) (by decide) (fun q => Nat.le_of_ble_eq_true rfl) fun X C hf => (t_X7_byteAt_0 C hf a1 a2 S h)
set_option maxRecDepth 100000 in
set_option maxHeartbeats 4000000 in
theorem t_X7_enough_63 {X : hs_T} (C : hs_C X 1 RX7 cX7_enough 7 1) {res : Int32 × hs_M} (hf : hs_FB X cX7_enough res) (K6 : Int32 → Int32 → Int32 → Int32 → Int32 → hs_M → Option (Int32 × hs_M)) (hK6 : ∀ (x1 : Int32) (x2 : Int32) (x3 : Int32) (x4 : Int32) (x5 : Int32) (S : hs_M), K6 x1 x2 x3 x4 x5 S = some res → hs_Z X 7 S [(0, .ref (hs_q X 100)), (1, .int x1), (2, .int x2), (3, .int x3), (4, .int x4), (5, .int x5)] [] 6) (x1 : Int32) (x2 : Int32) (x3 : Int32) (x5 : Int32) (y0 : Int32) (S : hs_M) (h : f_X7_enough_63 K6 x1 x2 x3 x5 y0 S = some res) : hs_Z X 7 S [(0, .ref (hs_q X 100)), (1, .int x1), (2, .int x2), (3, .int x3), (5, .int x5)] [.int y0] 63 := by
  unfold f_X7_enough_63 at h
  refine hs_istore (lv' := [(4, .int y0), (0, .ref (hs_q X 100)), (1, .int x1), (2, .int x2), (3, .int x3), (5, .int x5)]) C dX7_enough_63 (by decide) rfl ?_
  refine hs_iinc' (1 : Int32) C dX7_enough_65 5 rfl (by decide) (by decide) h (fun x_1 h => ?_)
  show hs_Z X _ _ [(5, .int x_1), (4, .int y0), (0, .ref (hs_q X 100)), (1, .int x1), (2, .int x2), (3, .int x3)] _ _
  refine hs_goto (tgt := 6) C dX7_enough_68 (by decide) ?_
  refine hs_sub [2, 3, 4, 5, 1, 0] rfl ?_
  exact hK6 x1 x2 x3 y0 x_1 S h
set_option maxRecDepth 100000 in
set_option maxHeartbeats 4000000 in
theorem t_X7_enough_62 {X : hs_T} (C : hs_C X 1 RX7 cX7_enough 7 1) {res : Int32 × hs_M} (hf : hs_FB X cX7_enough res) (K6 : Int32 → Int32 → Int32 → Int32 → Int32 → hs_M → Option (Int32 × hs_M)) (hK6 : ∀ (x1 : Int32) (x2 : Int32) (x3 : Int32) (x4 : Int32) (x5 : Int32) (S : hs_M), K6 x1 x2 x3 x4 x5 S = some res → hs_Z X 7 S [(0, .ref (hs_q X 100)), (1, .int x1), (2, .int x2), (3, .int x3), (4, .int x4), (5, .int x5)] [] 6) (x1 : Int32) (x2 : Int32) (x3 : Int32) (x5 : Int32) (S : hs_M) (h : f_X7_enough_62 K6 x1 x2 x3 x5 S = some res) : hs_Z X 7 S [(0, .ref (hs_q X 100)), (1, .int x1), (2, .int x2), (3, .int x3), (5, .int x5)] [] 62 := by
  unfold f_X7_enough_62 at h
  refine hs_iconst (v := 0) C dX7_enough_62 (by decide) ?_
  exact t_X7_enough_63 C hf K6 hK6 x1 x2 x3 x5 (0 : Int32) S h
set_option maxRecDepth 100000 in
set_option maxHeartbeats 4000000 in
theorem t_X7_enough_6 {X : hs_T} (C : hs_C X 1 RX7 cX7_enough 7 1) {res : Int32 × hs_M} (hf : hs_FB X cX7_enough res) (K6 : Int32 → Int32 → Int32 → Int32 → Int32 → hs_M → Option (Int32 × hs_M)) (hK6 : ∀ (x1 : Int32) (x2 : Int32) (x3 : Int32) (x4 : Int32) (x5 : Int32) (S : hs_M), K6 x1 x2 x3 x4 x5 S = some res → hs_Z X 7 S [(0, .ref (hs_q X 100)), (1, .int x1), (2, .int x2), (3, .int x3), (4, .int x4), (5, .int x5)] [] 6) (x1 : Int32) (x2 : Int32) (x3 : Int32) (x4 : Int32) (x5 : Int32) (S : hs_M) (h : fb_X7_enough_6 K6 x1 x2 x3 x4 x5 S = some res) : hs_Z X 7 S [(0, .ref (hs_q X 100)), (1, .int x1), (2, .int x2), (3, .int x3), (4, .int x4), (5, .int x5)] [] 6 := by
  unfold fb_X7_enough_6 at h
  refine hs_iload C dX7_enough_6 5 rfl ?_
  refine hs_aload_n C dX7_enough_8 0 rfl rfl ?_
  refine gf_X7_41 C dX7_enough_9 ?_
  refine hs_iload_n C dX7_enough_12 1 rfl rfl ?_
  refine hs_ald (kd := 14) C (Or.inr rfl) rfl (show hs_K 111 = 14 by decide +kernel) h dX7_enough_13 (fun h => ?_)
  refine hs_icmp_ge (tgt := 71) C dX7_enough_14 (by decide) h (fun h => ?_) (fun h => ?_)
  · skip
    refine hs_iload C dX7_enough_71 4 rfl ?_
    exact hs_iretb C hf h dX7_enough_73
  · skip
    refine hs_iload_n C dX7_enough_17 3 rfl rfl ?_
    refine hs_aload_n C dX7_enough_18 0 rfl rfl ?_
    refine gf_X7_44 C dX7_enough_19 ?_
    refine hs_iconst (v := 4) C dX7_enough_22 (by decide) ?_
    refine hs_iload_n C dX7_enough_23 1 rfl rfl ?_
    refine hs_imul C dX7_enough_24 ?_
    refine hs_iload C dX7_enough_25 5 rfl ?_
    refine hs_iadd C dX7_enough_27 ?_
    refine hs_top h (fun x_1 h => ?_)
    refine hs_ald (kd := 14) C (Or.inr rfl) rfl (show hs_K 112 = 14 by decide +kernel) h dX7_enough_28 (fun h => ?_)
    refine hs_isub C dX7_enough_29 ?_
    refine hs_aload_n C dX7_enough_30 0 rfl rfl ?_
    refine hs_iload_n C dX7_enough_31 2 rfl rfl ?_
    obtain ⟨r_4, S_2, hc_3, h⟩ := hs_b2_s h
    refine cs_X7_114 C (m_X7_backOf x2 S hc_3) (by decide) (Nat.le_of_ble_eq_true rfl) dX7_enough_32 ?_
    refine hs_iadd C dX7_enough_35 ?_
    refine hs_ldc C ww_313 dX7_enough_36 ?_
    refine hs_iand C dX7_enough_38 ?_
    refine hs_top h (fun x_5 h => ?_)
    refine hs_istore (lv' := [(6, .int x_5), (0, .ref (hs_q X 100)), (1, .int x1), (2, .int x2), (3, .int x3), (4, .int x4), (5, .int x5)]) C dX7_enough_39 (by decide) rfl ?_
    refine hs_iload C dX7_enough_41 5 rfl ?_
    refine hs_if_eq (tgt := 62) C dX7_enough_43 (by decide) h (fun h => ?_) (fun h => ?_)
    · skip
      refine hs_sub [1, 2, 3, 4, 6] rfl ?_
      exact t_X7_enough_62 C hf K6 hK6 x1 x2 x3 x5 S_2 h
    · skip
      refine hs_iload C dX7_enough_46 0 rfl ?_
      refine hs_iconst (v := 1) C dX7_enough_48 (by decide) ?_
      refine hs_aload_n C dX7_enough_49 1 rfl rfl ?_
      refine hs_iload_n C dX7_enough_50 3 rfl rfl ?_
      obtain ⟨r_8, S_6, hc_7, h⟩ := hs_b2_s h
      refine cs_X7_118 C (m_X7_bitsOf x2 S_2 hc_7) (by decide) (Nat.le_of_ble_eq_true rfl) dX7_enough_51 ?_
      refine hs_ishl C dX7_enough_54 ?_
      refine hs_icmp_ge (tgt := 62) C dX7_enough_55 (by decide) h (fun h => ?_) (fun h => ?_)
      · skip
        refine hs_sub [1, 2, 3, 4, 6] rfl ?_
        exact t_X7_enough_62 C hf K6 hK6 x1 x2 x3 x5 S_6 h
      · skip
        refine hs_iconst (v := 1) C dX7_enough_58 (by decide) ?_
        refine hs_goto (tgt := 63) C dX7_enough_59 (by decide) ?_
        refine hs_sub [1, 2, 3, 4, 6] rfl ?_
        exact t_X7_enough_63 C hf K6 hK6 x1 x2 x3 x5 (1 : Int32) S_6 h
theorem t_X7_enough_6l {X : hs_T} (C : hs_C X 1 RX7 cX7_enough 7 1) {res : Int32 × hs_M} (hf : hs_FB X cX7_enough res)  : ∀ (n : Nat) (x1 : Int32) (x2 : Int32) (x3 : Int32) (x4 : Int32) (x5 : Int32) (S : hs_M), f_X7_enough_6  n x1 x2 x3 x4 x5 S = some res → hs_Z X 7 S [(0, .ref (hs_q X 100)), (1, .int x1), (2, .int x2), (3, .int x3), (4, .int x4), (5, .int x5)] [] 6 := by
  intro n
  induction n with
  | zero =>
    intro x1 x2 x3 x4 x5 S h
    cases h
  | succ n ih =>
    intro x1 x2 x3 x4 x5 S h
    exact t_X7_enough_6 C hf  (f_X7_enough_6  n) ih x1 x2 x3 x4 x5 S h
set_option maxRecDepth 100000 in
set_option maxHeartbeats 4000000 in
theorem t_X7_enough_0 {X : hs_T} (C : hs_C X 1 RX7 cX7_enough 7 1) {res : Int32 × hs_M} (hf : hs_FB X cX7_enough res) (x1 : Int32) (x2 : Int32) (x3 : Int32) (S : hs_M) (h : f_X7_enough_0 x1 x2 x3 S = some res) : hs_Z X 7 S [(0, .ref (hs_q X 100)), (1, .int x1), (2, .int x2), (3, .int x3)] [] 0 := by
  unfold f_X7_enough_0 at h
  refine hs_iconst (v := 1) C dX7_enough_0 (by decide) ?_
  refine hs_istore (lv' := [(4, .int (1 : Int32)), (0, .ref (hs_q X 100)), (1, .int x1), (2, .int x2), (3, .int x3)]) C dX7_enough_1 (by decide) rfl ?_
  refine hs_iconst (v := 0) C dX7_enough_3 (by decide) ?_
  refine hs_istore (lv' := [(5, .int (0 : Int32)), (4, .int (1 : Int32)), (0, .ref (hs_q X 100)), (1, .int x1), (2, .int x2), (3, .int x3)]) C dX7_enough_4 (by decide) rfl ?_
  refine hs_sub [2, 3, 4, 5, 1, 0] rfl ?_
  exact t_X7_enough_6l C hf  hs_fuel x1 x2 x3 (1 : Int32) (0 : Int32) S h
theorem m_X7_enough (a1 : Int32) (a2 : Int32) (a3 : Int32) (S : hs_M) {r : Int32} {S' : hs_M} (h : f_X7_enough a1 a2 a3 S = some (r, S')) : hs_met 1 yX7_enough cX7_enough 7 (some .boolean) 1 (fun q => [.ref (q 100), .int a1, .int a2, .int a3]) S (fun q => some (.int r)) S' :=
  hs_mkB (res := (r, S')) (by decide +kernel) (by decide) (fun q => Nat.le_of_ble_eq_true rfl) fun X C hf => (t_X7_enough_0 C hf a1 a2 a3 S h)
set_option maxRecDepth 100000 in
set_option maxHeartbeats 4000000 in
theorem t_X7_choose_73 {X : hs_T} (C : hs_C X 1 RX7 cX7_choose 3 2) {res : Int32 × hs_M} (hf : hs_FI X cX7_choose res) (y0 : Int32) (S : hs_M) (h : f_X7_choose_73 y0 S = some res) : hs_Z X 3 S [] [.int y0] 73 := by
  unfold f_X7_choose_73 at h
  exact hs_ireti C hf h dX7_choose_73
set_option maxRecDepth 100000 in
set_option maxHeartbeats 4000000 in
theorem t_X7_choose_44 {X : hs_T} (C : hs_C X 1 RX7 cX7_choose 3 2) {res : Int32 × hs_M} (hf : hs_FI X cX7_choose res) (x1 : Int32) (x2 : Int32) (S : hs_M) (h : f_X7_choose_44 x1 x2 S = some res) : hs_Z X 3 S [(0, .ref (hs_q X 100)), (1, .int x1), (2, .int x2)] [] 44 := by
  unfold f_X7_choose_44 at h
  refine hs_aload_n C dX7_choose_44 0 rfl rfl ?_
  refine hs_iload_n C dX7_choose_45 1 rfl rfl ?_
  refine hs_iconst (v := 1) C dX7_choose_46 (by decide) ?_
  refine hs_iload_n C dX7_choose_47 2 rfl rfl ?_
  obtain ⟨r_3, S_1, hc_2, h⟩ := hs_b2_s h
  refine cs_X7_135 C (m_X7_enough x1 (1 : Int32) x2 S hc_2) (by decide) (Nat.le_of_ble_eq_true rfl) dX7_choose_48 ?_
  refine hs_if_eq (tgt := 58) C dX7_choose_51 (by decide) h (fun h => ?_) (fun h => ?_)
  · skip
    refine hs_aload_n C dX7_choose_58 0 rfl rfl ?_
    refine hs_iload_n C dX7_choose_59 1 rfl rfl ?_
    refine hs_iconst (v := 2) C dX7_choose_60 (by decide) ?_
    refine hs_iload_n C dX7_choose_61 2 rfl rfl ?_
    obtain ⟨r_6, S_4, hc_5, h⟩ := hs_b2_s h
    refine cs_X7_135 C (m_X7_enough x1 (2 : Int32) x2 S_1 hc_5) (by decide) (Nat.le_of_ble_eq_true rfl) dX7_choose_62 ?_
    refine hs_if_eq (tgt := 72) C dX7_choose_65 (by decide) h (fun h => ?_) (fun h => ?_)
    · skip
      refine hs_iconst (v := 3) C dX7_choose_72 (by decide) ?_
      refine hs_sub [] rfl ?_
      exact t_X7_choose_73 C hf  (3 : Int32) S_4 h
    · skip
      refine hs_iconst (v := 2) C dX7_choose_68 (by decide) ?_
      refine hs_goto (tgt := 73) C dX7_choose_69 (by decide) ?_
      refine hs_sub [] rfl ?_
      exact t_X7_choose_73 C hf  (2 : Int32) S_4 h
  · skip
    refine hs_iconst (v := 1) C dX7_choose_54 (by decide) ?_
    refine hs_goto (tgt := 73) C dX7_choose_55 (by decide) ?_
    refine hs_sub [] rfl ?_
    exact t_X7_choose_73 C hf  (1 : Int32) S_1 h
set_option maxRecDepth 100000 in
set_option maxHeartbeats 4000000 in
theorem t_X7_choose_24 {X : hs_T} (C : hs_C X 1 RX7 cX7_choose 3 2) {res : Int32 × hs_M} (hf : hs_FI X cX7_choose res) (y0 : Int32) (S : hs_M) (h : f_X7_choose_24 y0 S = some res) : hs_Z X 3 S [] [.int y0] 24 := by
  unfold f_X7_choose_24 at h
  exact hs_ireti C hf h dX7_choose_24
set_option maxRecDepth 100000 in
set_option maxHeartbeats 4000000 in
theorem t_X7_choose_0 {X : hs_T} (C : hs_C X 1 RX7 cX7_choose 3 2) {res : Int32 × hs_M} (hf : hs_FI X cX7_choose res) (x1 : Int32) (x2 : Int32) (S : hs_M) (h : f_X7_choose_0 x1 x2 S = some res) : hs_Z X 3 S [(0, .ref (hs_q X 100)), (1, .int x1), (2, .int x2)] [] 0 := by
  unfold f_X7_choose_0 at h
  refine hs_aload_n C dX7_choose_0 0 rfl rfl ?_
  refine gf_X7_32 C dX7_choose_1 ?_
  refine hs_iload_n C dX7_choose_4 1 rfl rfl ?_
  refine hs_ald (kd := 14) C (Or.inr rfl) rfl (show hs_K 108 = 14 by decide +kernel) h dX7_choose_5 (fun h => ?_)
  refine hs_iconst (v := 2) C dX7_choose_6 (by decide) ?_
  refine hs_icmp_ge (tgt := 25) C dX7_choose_7 (by decide) h (fun h => ?_) (fun h => ?_)
  · skip
    refine hs_aload_n C dX7_choose_25 0 rfl rfl ?_
    refine gf_X7_110 C dX7_choose_26 ?_
    refine hs_if_ne (tgt := 44) C dX7_choose_29 (by decide) h (fun h => ?_) (fun h => ?_)
    · skip
      exact t_X7_choose_44 C hf  x1 x2 S h
    · skip
      refine hs_aload_n C dX7_choose_32 0 rfl rfl ?_
      refine hs_iload_n C dX7_choose_33 1 rfl rfl ?_
      refine hs_iconst (v := 0) C dX7_choose_34 (by decide) ?_
      refine hs_iload_n C dX7_choose_35 2 rfl rfl ?_
      obtain ⟨r_3, S_1, hc_2, h⟩ := hs_b2_s h
      refine cs_X7_135 C (m_X7_enough x1 (0 : Int32) x2 S hc_2) (by decide) (Nat.le_of_ble_eq_true rfl) dX7_choose_36 ?_
      refine hs_if_eq (tgt := 44) C dX7_choose_39 (by decide) h (fun h => ?_) (fun h => ?_)
      · skip
        exact t_X7_choose_44 C hf  x1 x2 S_1 h
      · skip
        refine hs_iconst (v := 0) C dX7_choose_42 (by decide) ?_
        exact hs_ireti C hf h dX7_choose_43
  · skip
    refine hs_aload_n C dX7_choose_10 0 rfl rfl ?_
    refine gf_X7_32 C dX7_choose_11 ?_
    refine hs_iload_n C dX7_choose_14 1 rfl rfl ?_
    refine hs_ald (kd := 14) C (Or.inr rfl) rfl (show hs_K 108 = 14 by decide +kernel) h dX7_choose_15 (fun h => ?_)
    refine hs_if_ne (tgt := 23) C dX7_choose_16 (by decide) h (fun h => ?_) (fun h => ?_)
    · skip
      refine hs_iconst (v := 3) C dX7_choose_23 (by decide) ?_
      refine hs_sub [] rfl ?_
      exact t_X7_choose_24 C hf  (3 : Int32) S h
    · skip
      refine hs_iconst (v := 4) C dX7_choose_19 (by decide) ?_
      refine hs_goto (tgt := 24) C dX7_choose_20 (by decide) ?_
      refine hs_sub [] rfl ?_
      exact t_X7_choose_24 C hf  (4 : Int32) S h
theorem m_X7_choose (a1 : Int32) (a2 : Int32) (S : hs_M) {r : Int32} {S' : hs_M} (h : f_X7_choose a1 a2 S = some (r, S')) : hs_met 1 yX7_choose cX7_choose 3 (some .int) 2 (fun q => [.ref (q 100), .int a1, .int a2]) S (fun q => some (.int r)) S' :=
  hs_mkI (res := (r, S')) (by decide +kernel) (by decide) (fun q => Nat.le_of_ble_eq_true rfl) fun X C hf => (t_X7_choose_0 C hf a1 a2 S h)
set_option maxRecDepth 100000 in
set_option maxHeartbeats 4000000 in
theorem t_X7_near_0 {X : hs_T} (C : hs_C X 1 RX7 cX7_near 6 1) {res : Int32 × hs_M} (hf : hs_FI X cX7_near res) (x1 : Int32) (x2 : Int32) (x3 : Int32) (S : hs_M) (h : f_X7_near_0 x1 x2 x3 S = some res) : hs_Z X 6 S [(0, .ref (hs_q X 100)), (1, .int x1), (2, .int x2), (3, .int x3)] [] 0 := by
  unfold f_X7_near_0 at h
  refine hs_iload_n C dX7_near_0 1 rfl rfl ?_
  refine hs_aload_n C dX7_near_1 0 rfl rfl ?_
  refine hs_iload_n C dX7_near_2 2 rfl rfl ?_
  obtain ⟨r_3, S_1, hc_2, h⟩ := hs_b2_s h
  refine cs_X7_114 C (m_X7_backOf x2 S hc_2) (by decide) (Nat.le_of_ble_eq_true rfl) dX7_near_3 ?_
  refine hs_isub C dX7_near_6 ?_
  refine hs_top h (fun x_4 h => ?_)
  refine hs_istore (lv' := [(4, .int x_4), (0, .ref (hs_q X 100)), (1, .int x1), (2, .int x2), (3, .int x3)]) C dX7_near_7 (by decide) rfl ?_
  refine hs_iload_n C dX7_near_9 4 rfl rfl ?_
  refine hs_iload C dX7_near_10 0 rfl ?_
  refine hs_isub C dX7_near_12 ?_
  refine hs_iconst (v := 1) C dX7_near_13 (by decide) ?_
  refine hs_aload_n C dX7_near_14 1 rfl rfl ?_
  refine hs_iload_n C dX7_near_15 3 rfl rfl ?_
  obtain ⟨r_7, S_5, hc_6, h⟩ := hs_b2_s h
  refine cs_X7_118 C (m_X7_bitsOf x2 S_1 hc_6) (by decide) (Nat.le_of_ble_eq_true rfl) dX7_near_16 ?_
  refine hs_ishl C dX7_near_19 ?_
  refine hs_iconst (v := 1) C dX7_near_20 (by decide) ?_
  refine hs_isub C dX7_near_21 ?_
  refine hs_iand C dX7_near_22 ?_
  refine hs_top h (fun x_8 h => ?_)
  refine hs_istore (lv' := [(5, .int x_8), (4, .int x_4), (0, .ref (hs_q X 100)), (1, .int x1), (2, .int x2), (3, .int x3)]) C dX7_near_23 (by decide) rfl ?_
  refine hs_iload C dX7_near_25 1 rfl ?_
  refine hs_iload C dX7_near_27 0 rfl ?_
  refine hs_iadd C dX7_near_29 ?_
  refine hs_ldc C ww_313 dX7_near_30 ?_
  refine hs_iand C dX7_near_32 ?_
  exact hs_ireti C hf h dX7_near_33
theorem m_X7_near (a1 : Int32) (a2 : Int32) (a3 : Int32) (S : hs_M) {r : Int32} {S' : hs_M} (h : f_X7_near a1 a2 a3 S = some (r, S')) : hs_met 1 yX7_near cX7_near 6 (some .int) 1 (fun q => [.ref (q 100), .int a1, .int a2, .int a3]) S (fun q => some (.int r)) S' :=
  hs_mkI (res := (r, S')) (by decide +kernel) (by decide) (fun q => Nat.le_of_ble_eq_true rfl) fun X C hf => (t_X7_near_0 C hf a1 a2 a3 S h)
set_option maxRecDepth 100000 in
set_option maxHeartbeats 4000000 in
theorem t_X7_fill_68 {X : hs_T} (C : hs_C X 1 RX7 cX7_fill 8 0) {res : hs_M} (hf : hs_FV X cX7_fill res) (K68 : Int32 → Int32 → Int32 → hs_M → Option hs_M) (hK68 : ∀ (x5 : Int32) (x6 : Int32) (x7 : Int32) (S : hs_M), K68 x5 x6 x7 S = some res → hs_Z X 8 S [(0, .ref (hs_q X 100)), (5, .int x5), (6, .int x6), (7, .int x7)] [] 68) (x5 : Int32) (x6 : Int32) (x7 : Int32) (S : hs_M) (h : fb_X7_fill_68 K68 x5 x6 x7 S = some res) : hs_Z X 8 S [(0, .ref (hs_q X 100)), (5, .int x5), (6, .int x6), (7, .int x7)] [] 68 := by
  unfold fb_X7_fill_68 at h
  refine hs_iload C dX7_fill_68 3 rfl ?_
  refine hs_iconst (v := 4) C dX7_fill_70 (by decide) ?_
  refine hs_icmp_ge (tgt := 104) C dX7_fill_71 (by decide) h (fun h => ?_) (fun h => ?_)
  · skip
    refine hs_aload_n C dX7_fill_104 0 rfl rfl ?_
    refine gf_X7_86 C dX7_fill_105 ?_
    refine hs_bipush (v := 9) C dX7_fill_108 (by decide) ?_
    refine hs_iload C dX7_fill_110 2 rfl ?_
    refine hs_sipush (v := 256) C dX7_fill_112 (by decide) ?_
    refine hs_idiv C dX7_fill_115 (by decide) ?_
    refine hs_ast (kd := 14) C (Or.inr rfl) rfl (show hs_K 126 = 14 by decide +kernel) h dX7_fill_116 (fun S_1 h => ?_)
    refine hs_aload_n C dX7_fill_117 0 rfl rfl ?_
    refine gf_X7_86 C dX7_fill_118 ?_
    refine hs_bipush (v := 10) C dX7_fill_121 (by decide) ?_
    refine hs_iload C dX7_fill_123 2 rfl ?_
    refine hs_sipush (v := 256) C dX7_fill_125 (by decide) ?_
    refine hs_irem C dX7_fill_128 (by decide) ?_
    refine hs_ast (kd := 14) C (Or.inr rfl) rfl (show hs_K 126 = 14 by decide +kernel) h dX7_fill_129 (fun S_2 h => ?_)
    exact hs_vret C hf h dX7_fill_130
  · skip
    refine hs_aload_n C dX7_fill_74 0 rfl rfl ?_
    refine gf_X7_86 C dX7_fill_75 ?_
    refine hs_iconst (v := 5) C dX7_fill_78 (by decide) ?_
    refine hs_iload C dX7_fill_79 3 rfl ?_
    refine hs_iadd C dX7_fill_81 ?_
    refine hs_iload C dX7_fill_82 1 rfl ?_
    refine hs_bipush (v := 24) C dX7_fill_84 (by decide) ?_
    refine hs_bipush (v := 8) C dX7_fill_86 (by decide) ?_
    refine hs_iload C dX7_fill_88 3 rfl ?_
    refine hs_imul C dX7_fill_90 ?_
    refine hs_isub C dX7_fill_91 ?_
    refine hs_ishr C dX7_fill_92 ?_
    refine hs_sipush (v := 255) C dX7_fill_93 (by decide) ?_
    refine hs_iand C dX7_fill_96 ?_
    refine hs_ast (kd := 14) C (Or.inr rfl) rfl (show hs_K 126 = 14 by decide +kernel) h dX7_fill_97 (fun S_3 h => ?_)
    refine hs_iinc' (1 : Int32) C dX7_fill_98 3 rfl (by decide) (by decide) h (fun x_4 h => ?_)
    show hs_Z X _ _ [(7, .int x_4), (0, .ref (hs_q X 100)), (5, .int x5), (6, .int x6)] _ _
    refine hs_goto (tgt := 68) C dX7_fill_101 (by decide) ?_
    refine hs_sub [1, 2, 3, 0] rfl ?_
    exact hK68 x5 x6 x_4 S_3 h
theorem t_X7_fill_68l {X : hs_T} (C : hs_C X 1 RX7 cX7_fill 8 0) {res : hs_M} (hf : hs_FV X cX7_fill res)  : ∀ (n : Nat) (x5 : Int32) (x6 : Int32) (x7 : Int32) (S : hs_M), f_X7_fill_68  n x5 x6 x7 S = some res → hs_Z X 8 S [(0, .ref (hs_q X 100)), (5, .int x5), (6, .int x6), (7, .int x7)] [] 68 := by
  intro n
  induction n with
  | zero =>
    intro x5 x6 x7 S h
    cases h
  | succ n ih =>
    intro x5 x6 x7 S h
    exact t_X7_fill_68 C hf  (f_X7_fill_68  n) ih x5 x6 x7 S h
set_option maxRecDepth 100000 in
set_option maxHeartbeats 4000000 in
theorem t_X7_fill_39 {X : hs_T} (C : hs_C X 1 RX7 cX7_fill 8 0) {res : hs_M} (hf : hs_FV X cX7_fill res) (x4 : Int32) (x5 : Int32) (x6 : Int32) (y1 : Int32) (y2 : Int32) (y3 : Int32) (S : hs_M) (h : f_X7_fill_39 x4 x5 x6 y1 y2 y3 S = some res) : hs_Z X 8 S [(0, .ref (hs_q X 100)), (4, .int x4), (5, .int x5), (6, .int x6)] [.int y3, .int y2, .int y1, .ref (hs_q X 126)] 39 := by
  unfold f_X7_fill_39 at h
  refine hs_iadd C dX7_fill_39 ?_
  refine hs_ast (kd := 14) C (Or.inr rfl) rfl (show hs_K 126 = 14 by decide +kernel) h dX7_fill_40 (fun S_1 h => ?_)
  refine hs_aload_n C dX7_fill_41 0 rfl rfl ?_
  refine gf_X7_86 C dX7_fill_42 ?_
  refine hs_iconst (v := 3) C dX7_fill_45 (by decide) ?_
  refine hs_iload C dX7_fill_46 1 rfl ?_
  refine hs_sipush (v := 256) C dX7_fill_48 (by decide) ?_
  refine hs_idiv C dX7_fill_51 (by decide) ?_
  refine hs_ast (kd := 14) C (Or.inr rfl) rfl (show hs_K 126 = 14 by decide +kernel) h dX7_fill_52 (fun S_2 h => ?_)
  refine hs_aload_n C dX7_fill_53 0 rfl rfl ?_
  refine gf_X7_86 C dX7_fill_54 ?_
  refine hs_iconst (v := 4) C dX7_fill_57 (by decide) ?_
  refine hs_iload C dX7_fill_58 1 rfl ?_
  refine hs_sipush (v := 256) C dX7_fill_60 (by decide) ?_
  refine hs_irem C dX7_fill_63 (by decide) ?_
  refine hs_ast (kd := 14) C (Or.inr rfl) rfl (show hs_K 126 = 14 by decide +kernel) h dX7_fill_64 (fun S_3 h => ?_)
  refine hs_iconst (v := 0) C dX7_fill_65 (by decide) ?_
  refine hs_istore (lv' := [(7, .int (0 : Int32)), (0, .ref (hs_q X 100)), (4, .int x4), (5, .int x5), (6, .int x6)]) C dX7_fill_66 (by decide) rfl ?_
  refine hs_sub [1, 3, 4, 0] rfl ?_
  exact t_X7_fill_68l C hf  hs_fuel x5 x6 (0 : Int32) S_3 h
set_option maxRecDepth 100000 in
set_option maxHeartbeats 4000000 in
theorem t_X7_fill_0 {X : hs_T} (C : hs_C X 1 RX7 cX7_fill 8 0) {res : hs_M} (hf : hs_FV X cX7_fill res) (x1 : Int32) (x2 : Int32) (x3 : Int32) (x4 : Int32) (x5 : Int32) (x6 : Int32) (S : hs_M) (h : f_X7_fill_0 x1 x2 x3 x4 x5 x6 S = some res) : hs_Z X 8 S [(0, .ref (hs_q X 100)), (1, .int x1), (2, .int x2), (3, .int x3), (4, .int x4), (5, .int x5), (6, .int x6)] [] 0 := by
  unfold f_X7_fill_0 at h
  refine hs_aload_n C dX7_fill_0 0 rfl rfl ?_
  refine gf_X7_86 C dX7_fill_1 ?_
  refine hs_iconst (v := 0) C dX7_fill_4 (by decide) ?_
  refine hs_iload_n C dX7_fill_5 1 rfl rfl ?_
  refine hs_sipush (v := 256) C dX7_fill_6 (by decide) ?_
  refine hs_idiv C dX7_fill_9 (by decide) ?_
  refine hs_ast (kd := 14) C (Or.inr rfl) rfl (show hs_K 126 = 14 by decide +kernel) h dX7_fill_10 (fun S_1 h => ?_)
  refine hs_aload_n C dX7_fill_11 0 rfl rfl ?_
  refine gf_X7_86 C dX7_fill_12 ?_
  refine hs_iconst (v := 1) C dX7_fill_15 (by decide) ?_
  refine hs_iload_n C dX7_fill_16 1 rfl rfl ?_
  refine hs_sipush (v := 256) C dX7_fill_17 (by decide) ?_
  refine hs_irem C dX7_fill_20 (by decide) ?_
  refine hs_ast (kd := 14) C (Or.inr rfl) rfl (show hs_K 126 = 14 by decide +kernel) h dX7_fill_21 (fun S_2 h => ?_)
  refine hs_aload_n C dX7_fill_22 0 rfl rfl ?_
  refine gf_X7_86 C dX7_fill_23 ?_
  refine hs_iconst (v := 2) C dX7_fill_26 (by decide) ?_
  refine hs_iload_n C dX7_fill_27 2 rfl rfl ?_
  refine hs_iload_n C dX7_fill_28 3 rfl rfl ?_
  refine hs_if_eq (tgt := 38) C dX7_fill_29 (by decide) h (fun h => ?_) (fun h => ?_)
  · skip
    refine hs_iconst (v := 0) C dX7_fill_38 (by decide) ?_
    refine hs_sub [0, 4, 5, 6] rfl ?_
    exact t_X7_fill_39 C hf  x4 x5 x6 (2 : Int32) x2 (0 : Int32) S_2 h
  · skip
    refine hs_sipush (v := 128) C dX7_fill_32 (by decide) ?_
    refine hs_goto (tgt := 39) C dX7_fill_35 (by decide) ?_
    refine hs_sub [0, 4, 5, 6] rfl ?_
    exact t_X7_fill_39 C hf  x4 x5 x6 (2 : Int32) x2 (128 : Int32) S_2 h
theorem m_X7_fill (a1 : Int32) (a2 : Int32) (a3 : Int32) (a4 : Int32) (a5 : Int32) (a6 : Int32) (S : hs_M) {S' : hs_M} (h : f_X7_fill a1 a2 a3 a4 a5 a6 S = some S') : hs_met 1 yX7_fill cX7_fill 8 none 0 (fun q => [.ref (q 100), .int a1, .int a2, .int a3, .int a4, .int a5, .int a6]) S (fun q => none) S' :=
  hs_mkV (res := S') (by decide +kernel) (by decide) (fun q => Nat.le_of_ble_eq_true rfl) fun X C hf => (t_X7_fill_0 C hf a1 a2 a3 a4 a5 a6 S h)
set_option maxRecDepth 100000 in
set_option maxHeartbeats 4000000 in
theorem t_X7_sum_97 {X : hs_T} (C : hs_C X 1 RX7 cX7_sum 8 0) {res : Int32 × hs_M} (hf : hs_FI X cX7_sum res) (K35 : Int32 → Int32 → Int32 → Int32 → hs_M → Option (Int32 × hs_M)) (hK35 : ∀ (x2 : Int32) (x3 : Int32) (x4 : Int32) (x5 : Int32) (S : hs_M), K35 x2 x3 x4 x5 S = some res → hs_Z X 8 S [(0, .ref (hs_q X 100)), (2, .int x2), (3, .int x3), (4, .int x4), (5, .int x5)] [] 35) (K44 : Int32 → Int32 → Int32 → Int32 → Int32 → hs_M → Option (Int32 × hs_M)) (hK44 : ∀ (x2 : Int32) (x3 : Int32) (x4 : Int32) (x5 : Int32) (x6 : Int32) (S : hs_M), K44 x2 x3 x4 x5 x6 S = some res → hs_Z X 8 S [(0, .ref (hs_q X 100)), (2, .int x2), (3, .int x3), (4, .int x4), (5, .int x5), (6, .int x6)] [] 44) (x2 : Int32) (x3 : Int32) (x5 : Int32) (x6 : Int32) (y0 : Int32) (S : hs_M) (h : f_X7_sum_97 K35 K44 x2 x3 x5 x6 y0 S = some res) : hs_Z X 8 S [(0, .ref (hs_q X 100)), (2, .int x2), (3, .int x3), (5, .int x5), (6, .int x6)] [.int y0] 97 := by
  unfold f_X7_sum_97 at h
  refine hs_istore (lv' := [(4, .int y0), (0, .ref (hs_q X 100)), (2, .int x2), (3, .int x3), (5, .int x5), (6, .int x6)]) C dX7_sum_97 (by decide) rfl ?_
  refine hs_iinc' (1 : Int32) C dX7_sum_99 5 rfl (by decide) (by decide) h (fun x_1 h => ?_)
  show hs_Z X _ _ [(6, .int x_1), (4, .int y0), (0, .ref (hs_q X 100)), (2, .int x2), (3, .int x3), (5, .int x5)] _ _
  refine hs_goto (tgt := 44) C dX7_sum_102 (by decide) ?_
  refine hs_sub [2, 3, 4, 1, 5, 0] rfl ?_
  exact hK44 x2 x3 y0 x5 x_1 S h
set_option maxRecDepth 100000 in
set_option maxHeartbeats 4000000 in
theorem t_X7_sum_75 {X : hs_T} (C : hs_C X 1 RX7 cX7_sum 8 0) {res : Int32 × hs_M} (hf : hs_FI X cX7_sum res) (K35 : Int32 → Int32 → Int32 → Int32 → hs_M → Option (Int32 × hs_M)) (hK35 : ∀ (x2 : Int32) (x3 : Int32) (x4 : Int32) (x5 : Int32) (S : hs_M), K35 x2 x3 x4 x5 S = some res → hs_Z X 8 S [(0, .ref (hs_q X 100)), (2, .int x2), (3, .int x3), (4, .int x4), (5, .int x5)] [] 35) (K44 : Int32 → Int32 → Int32 → Int32 → Int32 → hs_M → Option (Int32 × hs_M)) (hK44 : ∀ (x2 : Int32) (x3 : Int32) (x4 : Int32) (x5 : Int32) (x6 : Int32) (S : hs_M), K44 x2 x3 x4 x5 x6 S = some res → hs_Z X 8 S [(0, .ref (hs_q X 100)), (2, .int x2), (3, .int x3), (4, .int x4), (5, .int x5), (6, .int x6)] [] 44) (x2 : Int32) (x3 : Int32) (x4 : Int32) (x5 : Int32) (x6 : Int32) (y0 : Int32) (S : hs_M) (h : f_X7_sum_75 K35 K44 x2 x3 x4 x5 x6 y0 S = some res) : hs_Z X 8 S [(0, .ref (hs_q X 100)), (2, .int x2), (3, .int x3), (4, .int x4), (5, .int x5), (6, .int x6)] [.int y0] 75 := by
  unfold f_X7_sum_75 at h
  refine hs_istore (lv' := [(7, .int y0), (0, .ref (hs_q X 100)), (2, .int x2), (3, .int x3), (4, .int x4), (5, .int x5), (6, .int x6)]) C dX7_sum_75 (by decide) rfl ?_
  refine hs_iload C dX7_sum_77 4 rfl ?_
  refine hs_iconst (v := 1) C dX7_sum_79 (by decide) ?_
  refine hs_ishr C dX7_sum_80 ?_
  refine hs_top h (fun x_1 h => ?_)
  refine hs_istore (lv' := [(4, .int x_1), (7, .int y0), (0, .ref (hs_q X 100)), (2, .int x2), (3, .int x3), (5, .int x5), (6, .int x6)]) C dX7_sum_81 (by decide) rfl ?_
  refine hs_iload C dX7_sum_83 1 rfl ?_
  refine hs_if_eq (tgt := 95) C dX7_sum_85 (by decide) h (fun h => ?_) (fun h => ?_)
  · skip
    refine hs_iload C dX7_sum_95 0 rfl ?_
    refine hs_sub [2, 3, 4, 5, 6] rfl ?_
    exact t_X7_sum_97 C hf K35 hK35 K44 hK44 x2 x3 x5 x6 x_1 S h
  · skip
    refine hs_iload C dX7_sum_88 0 rfl ?_
    refine hs_iload_n C dX7_sum_90 4 rfl rfl ?_
    refine hs_ixor C dX7_sum_91 ?_
    refine hs_goto (tgt := 97) C dX7_sum_92 (by decide) ?_
    refine hs_sub [2, 3, 4, 5, 6] rfl ?_
    exact t_X7_sum_97 C hf K35 hK35 K44 hK44 x2 x3 x5 x6 (x_1 ^^^ x3) S h
set_option maxRecDepth 100000 in
set_option maxHeartbeats 4000000 in
theorem t_X7_sum_44 {X : hs_T} (C : hs_C X 1 RX7 cX7_sum 8 0) {res : Int32 × hs_M} (hf : hs_FI X cX7_sum res) (K35 : Int32 → Int32 → Int32 → Int32 → hs_M → Option (Int32 × hs_M)) (hK35 : ∀ (x2 : Int32) (x3 : Int32) (x4 : Int32) (x5 : Int32) (S : hs_M), K35 x2 x3 x4 x5 S = some res → hs_Z X 8 S [(0, .ref (hs_q X 100)), (2, .int x2), (3, .int x3), (4, .int x4), (5, .int x5)] [] 35) (K44 : Int32 → Int32 → Int32 → Int32 → Int32 → hs_M → Option (Int32 × hs_M)) (hK44 : ∀ (x2 : Int32) (x3 : Int32) (x4 : Int32) (x5 : Int32) (x6 : Int32) (S : hs_M), K44 x2 x3 x4 x5 x6 S = some res → hs_Z X 8 S [(0, .ref (hs_q X 100)), (2, .int x2), (3, .int x3), (4, .int x4), (5, .int x5), (6, .int x6)] [] 44) (x2 : Int32) (x3 : Int32) (x4 : Int32) (x5 : Int32) (x6 : Int32) (S : hs_M) (h : fb_X7_sum_44 K35 K44 x2 x3 x4 x5 x6 S = some res) : hs_Z X 8 S [(0, .ref (hs_q X 100)), (2, .int x2), (3, .int x3), (4, .int x4), (5, .int x5), (6, .int x6)] [] 44 := by
  unfold fb_X7_sum_44 at h
  refine hs_iload C dX7_sum_44 5 rfl ?_
  refine hs_bipush (v := 8) C dX7_sum_46 (by decide) ?_
  refine hs_icmp_ge (tgt := 105) C dX7_sum_48 (by decide) h (fun h => ?_) (fun h => ?_)
  · skip
    refine hs_iinc' (1 : Int32) C dX7_sum_105 4 rfl (by decide) (by decide) h (fun x_1 h => ?_)
    show hs_Z X _ _ [(5, .int x_1), (0, .ref (hs_q X 100)), (2, .int x2), (3, .int x3), (4, .int x4), (6, .int x6)] _ _
    refine hs_goto (tgt := 35) C dX7_sum_108 (by decide) ?_
    refine hs_sub [1, 2, 3, 4, 0] rfl ?_
    exact hK35 x2 x3 x4 x_1 S h
  · skip
    refine hs_iload C dX7_sum_51 3 rfl ?_
    refine hs_iconst (v := 1) C dX7_sum_53 (by decide) ?_
    refine hs_iand C dX7_sum_54 ?_
    refine hs_aload_n C dX7_sum_55 0 rfl rfl ?_
    refine gf_X7_86 C dX7_sum_56 ?_
    refine hs_iload C dX7_sum_59 4 rfl ?_
    refine hs_ald (kd := 14) C (Or.inr rfl) rfl (show hs_K 126 = 14 by decide +kernel) h dX7_sum_61 (fun h => ?_)
    refine hs_iload C dX7_sum_62 5 rfl ?_
    refine hs_ishr C dX7_sum_64 ?_
    refine hs_iconst (v := 1) C dX7_sum_65 (by decide) ?_
    refine hs_iand C dX7_sum_66 ?_
    refine hs_icmp_eq (tgt := 74) C dX7_sum_67 (by decide) h (fun h => ?_) (fun h => ?_)
    · skip
      refine hs_iconst (v := 0) C dX7_sum_74 (by decide) ?_
      exact t_X7_sum_75 C hf K35 hK35 K44 hK44 x2 x3 x4 x5 x6 (0 : Int32) S h
    · skip
      refine hs_iconst (v := 1) C dX7_sum_70 (by decide) ?_
      refine hs_goto (tgt := 75) C dX7_sum_71 (by decide) ?_
      exact t_X7_sum_75 C hf K35 hK35 K44 hK44 x2 x3 x4 x5 x6 (1 : Int32) S h
theorem t_X7_sum_44l {X : hs_T} (C : hs_C X 1 RX7 cX7_sum 8 0) {res : Int32 × hs_M} (hf : hs_FI X cX7_sum res) (K35 : Int32 → Int32 → Int32 → Int32 → hs_M → Option (Int32 × hs_M)) (hK35 : ∀ (x2 : Int32) (x3 : Int32) (x4 : Int32) (x5 : Int32) (S : hs_M), K35 x2 x3 x4 x5 S = some res → hs_Z X 8 S [(0, .ref (hs_q X 100)), (2, .int x2), (3, .int x3), (4, .int x4), (5, .int x5)] [] 35) : ∀ (n : Nat) (x2 : Int32) (x3 : Int32) (x4 : Int32) (x5 : Int32) (x6 : Int32) (S : hs_M), f_X7_sum_44 K35 n x2 x3 x4 x5 x6 S = some res → hs_Z X 8 S [(0, .ref (hs_q X 100)), (2, .int x2), (3, .int x3), (4, .int x4), (5, .int x5), (6, .int x6)] [] 44 := by
  intro n
  induction n with
  | zero =>
    intro x2 x3 x4 x5 x6 S h
    cases h
  | succ n ih =>
    intro x2 x3 x4 x5 x6 S h
    exact t_X7_sum_44 C hf K35 hK35 (f_X7_sum_44 K35 n) ih x2 x3 x4 x5 x6 S h
set_option maxRecDepth 100000 in
set_option maxHeartbeats 4000000 in
theorem t_X7_sum_35 {X : hs_T} (C : hs_C X 1 RX7 cX7_sum 8 0) {res : Int32 × hs_M} (hf : hs_FI X cX7_sum res) (K35 : Int32 → Int32 → Int32 → Int32 → hs_M → Option (Int32 × hs_M)) (hK35 : ∀ (x2 : Int32) (x3 : Int32) (x4 : Int32) (x5 : Int32) (S : hs_M), K35 x2 x3 x4 x5 S = some res → hs_Z X 8 S [(0, .ref (hs_q X 100)), (2, .int x2), (3, .int x3), (4, .int x4), (5, .int x5)] [] 35) (x2 : Int32) (x3 : Int32) (x4 : Int32) (x5 : Int32) (S : hs_M) (h : fb_X7_sum_35 K35 x2 x3 x4 x5 S = some res) : hs_Z X 8 S [(0, .ref (hs_q X 100)), (2, .int x2), (3, .int x3), (4, .int x4), (5, .int x5)] [] 35 := by
  unfold fb_X7_sum_35 at h
  refine hs_iload C dX7_sum_35 4 rfl ?_
  refine hs_iload_n C dX7_sum_37 1 rfl rfl ?_
  refine hs_icmp_ge (tgt := 111) C dX7_sum_38 (by decide) h (fun h => ?_) (fun h => ?_)
  · skip
    refine hs_iload C dX7_sum_111 3 rfl ?_
    exact hs_ireti C hf h dX7_sum_113
  · skip
    refine hs_iconst (v := 0) C dX7_sum_41 (by decide) ?_
    refine hs_istore (lv' := [(6, .int (0 : Int32)), (0, .ref (hs_q X 100)), (2, .int x2), (3, .int x3), (4, .int x4), (5, .int x5)]) C dX7_sum_42 (by decide) rfl ?_
    refine hs_sub [1, 2, 3, 4, 5, 0] rfl ?_
    exact t_X7_sum_44l C hf K35 hK35 hs_fuel x2 x3 x4 x5 (0 : Int32) S h
theorem t_X7_sum_35l {X : hs_T} (C : hs_C X 1 RX7 cX7_sum 8 0) {res : Int32 × hs_M} (hf : hs_FI X cX7_sum res)  : ∀ (n : Nat) (x2 : Int32) (x3 : Int32) (x4 : Int32) (x5 : Int32) (S : hs_M), f_X7_sum_35  n x2 x3 x4 x5 S = some res → hs_Z X 8 S [(0, .ref (hs_q X 100)), (2, .int x2), (3, .int x3), (4, .int x4), (5, .int x5)] [] 35 := by
  intro n
  induction n with
  | zero =>
    intro x2 x3 x4 x5 S h
    cases h
  | succ n ih =>
    intro x2 x3 x4 x5 S h
    exact t_X7_sum_35 C hf  (f_X7_sum_35  n) ih x2 x3 x4 x5 S h
set_option maxRecDepth 100000 in
set_option maxHeartbeats 4000000 in
theorem t_X7_sum_24 {X : hs_T} (C : hs_C X 1 RX7 cX7_sum 8 0) {res : Int32 × hs_M} (hf : hs_FI X cX7_sum res) (x1 : Int32) (x2 : Int32) (y0 : Int32) (S : hs_M) (h : f_X7_sum_24 x1 x2 y0 S = some res) : hs_Z X 8 S [(0, .ref (hs_q X 100)), (1, .int x1), (2, .int x2)] [.int y0] 24 := by
  unfold f_X7_sum_24 at h
  refine hs_istore_n (lv' := [(3, .int y0), (0, .ref (hs_q X 100)), (1, .int x1), (2, .int x2)]) C dX7_sum_24 rfl (by decide) rfl ?_
  refine hs_iconst (v := 1) C dX7_sum_25 (by decide) ?_
  refine hs_iload_n C dX7_sum_26 2 rfl rfl ?_
  refine hs_ishl C dX7_sum_27 ?_
  refine hs_iconst (v := 1) C dX7_sum_28 (by decide) ?_
  refine hs_isub C dX7_sum_29 ?_
  refine hs_top h (fun x_1 h => ?_)
  refine hs_istore (lv' := [(4, .int x_1), (3, .int y0), (0, .ref (hs_q X 100)), (1, .int x1), (2, .int x2)]) C dX7_sum_30 (by decide) rfl ?_
  refine hs_iconst (v := 0) C dX7_sum_32 (by decide) ?_
  refine hs_istore (lv' := [(5, .int (0 : Int32)), (4, .int x_1), (3, .int y0), (0, .ref (hs_q X 100)), (1, .int x1), (2, .int x2)]) C dX7_sum_33 (by decide) rfl ?_
  refine hs_sub [3, 5, 2, 1, 0] rfl ?_
  exact t_X7_sum_35l C hf  hs_fuel x2 y0 x_1 (0 : Int32) S h
set_option maxRecDepth 100000 in
set_option maxHeartbeats 4000000 in
theorem t_X7_sum_0 {X : hs_T} (C : hs_C X 1 RX7 cX7_sum 8 0) {res : Int32 × hs_M} (hf : hs_FI X cX7_sum res) (x1 : Int32) (x2 : Int32) (S : hs_M) (h : f_X7_sum_0 x1 x2 S = some res) : hs_Z X 8 S [(0, .ref (hs_q X 100)), (1, .int x1), (2, .int x2)] [] 0 := by
  unfold f_X7_sum_0 at h
  refine hs_iload_n C dX7_sum_0 1 rfl rfl ?_
  refine hs_iconst (v := 3) C dX7_sum_1 (by decide) ?_
  refine hs_icmp_ne (tgt := 10) C dX7_sum_2 (by decide) h (fun h => ?_) (fun h => ?_)
  · skip
    refine hs_iload_n C dX7_sum_10 1 rfl rfl ?_
    refine hs_bipush (v := 7) C dX7_sum_11 (by decide) ?_
    refine hs_icmp_ne (tgt := 21) C dX7_sum_13 (by decide) h (fun h => ?_) (fun h => ?_)
    · skip
      refine hs_sipush (v := 224) C dX7_sum_21 (by decide) ?_
      exact t_X7_sum_24 C hf  x1 x2 (224 : Int32) S h
    · skip
      refine hs_bipush (v := 121) C dX7_sum_16 (by decide) ?_
      refine hs_goto (tgt := 24) C dX7_sum_18 (by decide) ?_
      exact t_X7_sum_24 C hf  x1 x2 (121 : Int32) S h
  · skip
    refine hs_bipush (v := 6) C dX7_sum_5 (by decide) ?_
    refine hs_goto (tgt := 24) C dX7_sum_7 (by decide) ?_
    exact t_X7_sum_24 C hf  x1 x2 (6 : Int32) S h
theorem m_X7_sum (a1 : Int32) (a2 : Int32) (S : hs_M) {r : Int32} {S' : hs_M} (h : f_X7_sum a1 a2 S = some (r, S')) : hs_met 1 yX7_sum cX7_sum 8 (some .int) 0 (fun q => [.ref (q 100), .int a1, .int a2]) S (fun q => some (.int r)) S' :=
  hs_mkI (res := (r, S')) (by decide +kernel) (by decide) (fun q => Nat.le_of_ble_eq_true rfl) fun X C hf => (t_X7_sum_0 C hf a1 a2 S h)
set_option maxRecDepth 100000 in
set_option maxHeartbeats 4000000 in
theorem t_X7_fits_81 {X : hs_T} (C : hs_C X 1 RX7 cX7_fits 6 1) {res : Int32 × hs_M} (hf : hs_FB X cX7_fits res) (y0 : Int32) (S : hs_M) (h : f_X7_fits_81 y0 S = some res) : hs_Z X 6 S [] [.int y0] 81 := by
  unfold f_X7_fits_81 at h
  exact hs_iretb C hf h dX7_fits_81
set_option maxRecDepth 100000 in
set_option maxHeartbeats 4000000 in
theorem t_X7_fits_66 {X : hs_T} (C : hs_C X 1 RX7 cX7_fits 6 1) {res : Int32 × hs_M} (hf : hs_FB X cX7_fits res) (x5 : Int32) (y1 : Int32) (S : hs_M) (h : f_X7_fits_66 x5 y1 S = some res) : hs_Z X 6 S [(5, .int x5)] [.int y1, .ref (hs_q X 100)] 66 := by
  unfold f_X7_fits_66 at h
  refine hs_bipush (v := 11) C dX7_fits_66 (by decide) ?_
  obtain ⟨r_3, S_1, hc_2, h⟩ := hs_b2_s h
  refine cs_X7_128 C (m_X7_sum y1 (11 : Int32) S hc_2) (by decide) (Nat.le_of_ble_eq_true rfl) dX7_fits_68 ?_
  refine hs_iload C dX7_fits_71 0 rfl ?_
  refine hs_icmp_ne (tgt := 80) C dX7_fits_73 (by decide) h (fun h => ?_) (fun h => ?_)
  · skip
    refine hs_iconst (v := 0) C dX7_fits_80 (by decide) ?_
    refine hs_sub [] rfl ?_
    exact t_X7_fits_81 C hf  (0 : Int32) S_1 h
  · skip
    refine hs_iconst (v := 1) C dX7_fits_76 (by decide) ?_
    refine hs_goto (tgt := 81) C dX7_fits_77 (by decide) ?_
    refine hs_sub [] rfl ?_
    exact t_X7_fits_81 C hf  (1 : Int32) S_1 h
set_option maxRecDepth 100000 in
set_option maxHeartbeats 4000000 in
theorem t_X7_fits_0 {X : hs_T} (C : hs_C X 1 RX7 cX7_fits 6 1) {res : Int32 × hs_M} (hf : hs_FB X cX7_fits res) (x1 : Int32) (x2 : Int32) (x3 : Int32) (x4 : Int32) (x5 : Int32) (S : hs_M) (h : f_X7_fits_0 x1 x2 x3 x4 x5 S = some res) : hs_Z X 6 S [(0, .ref (hs_q X 100)), (1, .int x1), (2, .int x2), (3, .int x3), (4, .int x4), (5, .int x5)] [] 0 := by
  unfold f_X7_fits_0 at h
  refine hs_aload_n C dX7_fits_0 0 rfl rfl ?_
  refine hs_aload_n C dX7_fits_1 0 rfl rfl ?_
  refine gf_X7_56 C dX7_fits_2 ?_
  refine hs_iload_n C dX7_fits_5 1 rfl rfl ?_
  refine hs_ald (kd := 14) C (Or.inr rfl) rfl (show hs_K 116 = 14 by decide +kernel) h dX7_fits_6 (fun h => ?_)
  refine hs_aload_n C dX7_fits_7 0 rfl rfl ?_
  refine gf_X7_59 C dX7_fits_8 ?_
  refine hs_iload_n C dX7_fits_11 1 rfl rfl ?_
  refine hs_ald (kd := 14) C (Or.inr rfl) rfl (show hs_K 117 = 14 by decide +kernel) h dX7_fits_12 (fun h => ?_)
  refine hs_iload C dX7_fits_13 4 rfl ?_
  refine hs_iload_n C dX7_fits_15 3 rfl rfl ?_
  refine hs_aload_n C dX7_fits_16 0 rfl rfl ?_
  refine gf_X7_65 C dX7_fits_17 ?_
  refine hs_iload_n C dX7_fits_20 1 rfl rfl ?_
  refine hs_ald (kd := 14) C (Or.inr rfl) rfl (show hs_K 119 = 14 by decide +kernel) h dX7_fits_21 (fun h => ?_)
  refine hs_iload_n C dX7_fits_22 3 rfl rfl ?_
  refine hs_aload_n C dX7_fits_23 0 rfl rfl ?_
  refine gf_X7_62 C dX7_fits_24 ?_
  refine hs_iload_n C dX7_fits_27 1 rfl rfl ?_
  refine hs_ald (kd := 14) C (Or.inr rfl) rfl (show hs_K 118 = 14 by decide +kernel) h dX7_fits_28 (fun h => ?_)
  refine hs_imul C dX7_fits_29 ?_
  refine hs_iadd C dX7_fits_30 ?_
  refine hs_iload_n C dX7_fits_31 3 rfl rfl ?_
  refine hs_aload_n C dX7_fits_32 0 rfl rfl ?_
  refine gf_X7_68 C dX7_fits_33 ?_
  refine hs_iload_n C dX7_fits_36 1 rfl rfl ?_
  refine hs_ald (kd := 14) C (Or.inr rfl) rfl (show hs_K 120 = 14 by decide +kernel) h dX7_fits_37 (fun h => ?_)
  refine hs_iadd C dX7_fits_38 ?_
  refine hs_ldc C ww_313 dX7_fits_39 ?_
  refine hs_iand C dX7_fits_41 ?_
  obtain ⟨S_1, hc_2, h⟩ := hs_b1_s h
  refine cs_X7_142 C (m_X7_fill (S 116 x1.toNatClampNeg) (S 117 x1.toNatClampNeg) x4 x3 ((S 119 x1.toNatClampNeg) + (x3 * (S 118 x1.toNatClampNeg))) ((x3 + (S 120 x1.toNatClampNeg)) &&& (65535 : Int32)) S hc_2) (by decide) (Nat.le_of_ble_eq_true rfl) dX7_fits_42 ?_
  refine hs_aload_n C dX7_fits_45 0 rfl rfl ?_
  refine hs_iload_n C dX7_fits_46 2 rfl rfl ?_
  refine hs_if_ne (tgt := 54) C dX7_fits_47 (by decide) h (fun h => ?_) (fun h => ?_)
  · skip
    refine hs_iload_n C dX7_fits_54 2 rfl rfl ?_
    refine hs_iconst (v := 1) C dX7_fits_55 (by decide) ?_
    refine hs_icmp_ne (tgt := 64) C dX7_fits_56 (by decide) h (fun h => ?_) (fun h => ?_)
    · skip
      refine hs_bipush (v := 8) C dX7_fits_64 (by decide) ?_
      refine hs_sub [5] rfl ?_
      exact t_X7_fits_66 C hf  x5 (8 : Int32) S_1 h
    · skip
      refine hs_bipush (v := 7) C dX7_fits_59 (by decide) ?_
      refine hs_goto (tgt := 66) C dX7_fits_61 (by decide) ?_
      refine hs_sub [5] rfl ?_
      exact t_X7_fits_66 C hf  x5 (7 : Int32) S_1 h
  · skip
    refine hs_iconst (v := 3) C dX7_fits_50 (by decide) ?_
    refine hs_goto (tgt := 66) C dX7_fits_51 (by decide) ?_
    refine hs_sub [5] rfl ?_
    exact t_X7_fits_66 C hf  x5 (3 : Int32) S_1 h
theorem m_X7_fits (a1 : Int32) (a2 : Int32) (a3 : Int32) (a4 : Int32) (a5 : Int32) (S : hs_M) {r : Int32} {S' : hs_M} (h : f_X7_fits a1 a2 a3 a4 a5 S = some (r, S')) : hs_met 1 yX7_fits cX7_fits 6 (some .boolean) 1 (fun q => [.ref (q 100), .int a1, .int a2, .int a3, .int a4, .int a5]) S (fun q => some (.int r)) S' :=
  hs_mkB (res := (r, S')) (by decide +kernel) (by decide) (fun q => Nat.le_of_ble_eq_true rfl) fun X C hf => (t_X7_fits_0 C hf a1 a2 a3 a4 a5 S h)
set_option maxRecDepth 100000 in
set_option maxHeartbeats 4000000 in
theorem t_X7_keep_52 {X : hs_T} (C : hs_C X 1 RX7 cX7_keep 4 0) {res : hs_M} (hf : hs_FV X cX7_keep res) (K52 : Int32 → hs_M → Option hs_M) (hK52 : ∀ (x3 : Int32) (S : hs_M), K52 x3 S = some res → hs_Z X 4 S [(0, .ref (hs_q X 100)), (3, .int x3)] [] 52) (x3 : Int32) (S : hs_M) (h : fb_X7_keep_52 K52 x3 S = some res) : hs_Z X 4 S [(0, .ref (hs_q X 100)), (3, .int x3)] [] 52 := by
  unfold fb_X7_keep_52 at h
  refine hs_iload_n C dX7_keep_52 1 rfl rfl ?_
  refine hs_bipush (v := 11) C dX7_keep_53 (by decide) ?_
  refine hs_icmp_ge (tgt := 76) C dX7_keep_55 (by decide) h (fun h => ?_) (fun h => ?_)
  · skip
    exact hs_vret C hf h dX7_keep_76
  · skip
    refine hs_aload_n C dX7_keep_58 0 rfl rfl ?_
    refine gf_X7_80 C dX7_keep_59 ?_
    refine hs_iload_n C dX7_keep_62 1 rfl rfl ?_
    refine hs_aload_n C dX7_keep_63 0 rfl rfl ?_
    refine gf_X7_86 C dX7_keep_64 ?_
    refine hs_iload_n C dX7_keep_67 1 rfl rfl ?_
    refine hs_ald (kd := 14) C (Or.inr rfl) rfl (show hs_K 126 = 14 by decide +kernel) h dX7_keep_68 (fun h => ?_)
    refine hs_ast (kd := 14) C (Or.inr rfl) rfl (show hs_K 124 = 14 by decide +kernel) h dX7_keep_69 (fun S_1 h => ?_)
    refine hs_iinc' (1 : Int32) C dX7_keep_70 1 rfl (by decide) (by decide) h (fun x_2 h => ?_)
    show hs_Z X _ _ [(3, .int x_2), (0, .ref (hs_q X 100))] _ _
    refine hs_goto (tgt := 52) C dX7_keep_73 (by decide) ?_
    refine hs_sub [1, 0] rfl ?_
    exact hK52 x_2 S_1 h
theorem t_X7_keep_52l {X : hs_T} (C : hs_C X 1 RX7 cX7_keep 4 0) {res : hs_M} (hf : hs_FV X cX7_keep res)  : ∀ (n : Nat) (x3 : Int32) (S : hs_M), f_X7_keep_52  n x3 S = some res → hs_Z X 4 S [(0, .ref (hs_q X 100)), (3, .int x3)] [] 52 := by
  intro n
  induction n with
  | zero =>
    intro x3 S h
    cases h
  | succ n ih =>
    intro x3 S h
    exact t_X7_keep_52 C hf  (f_X7_keep_52  n) ih x3 S h
set_option maxRecDepth 100000 in
set_option maxHeartbeats 4000000 in
theorem t_X7_keep_24 {X : hs_T} (C : hs_C X 1 RX7 cX7_keep 4 0) {res : hs_M} (hf : hs_FV X cX7_keep res) (x1 : Int32) (x2 : Int32) (y1 : Int32) (y2 : Int32) (S : hs_M) (h : f_X7_keep_24 x1 x2 y1 y2 S = some res) : hs_Z X 4 S [(0, .ref (hs_q X 100)), (1, .int x1), (2, .int x2)] [.int y2, .int y1, .ref (hs_q X 122)] 24 := by
  unfold f_X7_keep_24 at h
  refine hs_ast (kd := 14) C (Or.inr rfl) rfl (show hs_K 122 = 14 by decide +kernel) h dX7_keep_24 (fun S_1 h => ?_)
  refine hs_aload_n C dX7_keep_25 0 rfl rfl ?_
  refine gf_X7_71 C dX7_keep_26 ?_
  refine hs_iload_n C dX7_keep_29 1 rfl rfl ?_
  refine hs_iload_n C dX7_keep_30 2 rfl rfl ?_
  refine hs_ast (kd := 14) C (Or.inr rfl) rfl (show hs_K 121 = 14 by decide +kernel) h dX7_keep_31 (fun S_2 h => ?_)
  refine hs_aload_n C dX7_keep_32 0 rfl rfl ?_
  refine gf_X7_77 C dX7_keep_33 ?_
  refine hs_iload_n C dX7_keep_36 1 rfl rfl ?_
  refine hs_iconst (v := 0) C dX7_keep_37 (by decide) ?_
  refine hs_ast (kd := 14) C (Or.inr rfl) rfl (show hs_K 123 = 14 by decide +kernel) h dX7_keep_38 (fun S_3 h => ?_)
  refine hs_aload_n C dX7_keep_39 0 rfl rfl ?_
  refine gf_X7_83 C dX7_keep_40 ?_
  refine hs_bipush (v := 6) C dX7_keep_43 (by decide) ?_
  refine hs_dup2 C dX7_keep_45 rfl rfl ?_
  refine hs_ald (kd := 14) C (Or.inr rfl) rfl (show hs_K 125 = 14 by decide +kernel) h dX7_keep_46 (fun h => ?_)
  refine hs_iconst (v := 1) C dX7_keep_47 (by decide) ?_
  refine hs_iadd C dX7_keep_48 ?_
  refine hs_ast (kd := 14) C (Or.inr rfl) rfl (show hs_K 125 = 14 by decide +kernel) h dX7_keep_49 (fun S_4 h => ?_)
  refine hs_iconst (v := 0) C dX7_keep_50 (by decide) ?_
  refine hs_istore_n (lv' := [(3, .int (0 : Int32)), (0, .ref (hs_q X 100)), (1, .int x1), (2, .int x2)]) C dX7_keep_51 rfl (by decide) rfl ?_
  refine hs_sub [1, 0] rfl ?_
  exact t_X7_keep_52l C hf  hs_fuel (0 : Int32) S_4 h
set_option maxRecDepth 100000 in
set_option maxHeartbeats 4000000 in
theorem t_X7_keep_0 {X : hs_T} (C : hs_C X 1 RX7 cX7_keep 4 0) {res : hs_M} (hf : hs_FV X cX7_keep res) (x1 : Int32) (x2 : Int32) (S : hs_M) (h : f_X7_keep_0 x1 x2 S = some res) : hs_Z X 4 S [(0, .ref (hs_q X 100)), (1, .int x1), (2, .int x2)] [] 0 := by
  unfold f_X7_keep_0 at h
  refine hs_aload_n C dX7_keep_0 0 rfl rfl ?_
  refine gf_X7_74 C dX7_keep_1 ?_
  refine hs_iload_n C dX7_keep_4 1 rfl rfl ?_
  refine hs_aload_n C dX7_keep_5 0 rfl rfl ?_
  refine gf_X7_53 C dX7_keep_6 ?_
  refine hs_iload_n C dX7_keep_9 1 rfl rfl ?_
  refine hs_ald (kd := 14) C (Or.inr rfl) rfl (show hs_K 115 = 14 by decide +kernel) h dX7_keep_10 (fun h => ?_)
  refine hs_if_ne (tgt := 18) C dX7_keep_11 (by decide) h (fun h => ?_) (fun h => ?_)
  · skip
    refine hs_aload_n C dX7_keep_18 0 rfl rfl ?_
    refine gf_X7_71 C dX7_keep_19 ?_
    refine hs_iload_n C dX7_keep_22 1 rfl rfl ?_
    refine hs_ald (kd := 14) C (Or.inr rfl) rfl (show hs_K 121 = 14 by decide +kernel) h dX7_keep_23 (fun h => ?_)
    exact t_X7_keep_24 C hf  x1 x2 x1 (S 121 x1.toNatClampNeg) S h
  · skip
    refine hs_iload_n C dX7_keep_14 2 rfl rfl ?_
    refine hs_goto (tgt := 24) C dX7_keep_15 (by decide) ?_
    exact t_X7_keep_24 C hf  x1 x2 x1 x2 S h
theorem m_X7_keep (a1 : Int32) (a2 : Int32) (S : hs_M) {S' : hs_M} (h : f_X7_keep a1 a2 S = some S') : hs_met 1 yX7_keep cX7_keep 4 none 0 (fun q => [.ref (q 100), .int a1, .int a2]) S (fun q => none) S' :=
  hs_mkV (res := S') (by decide +kernel) (by decide) (fun q => Nat.le_of_ble_eq_true rfl) fun X C hf => (t_X7_keep_0 C hf a1 a2 S h)
set_option maxRecDepth 100000 in
set_option maxHeartbeats 4000000 in
theorem t_X7_two_0 {X : hs_T} (C : hs_C X 1 RX7 cX7_two 2 0) {res : Int32 × hs_M} (hf : hs_FI X cX7_two res) (x1 : Int32) (S : hs_M) (h : f_X7_two_0 x1 S = some res) : hs_Z X 2 S [(0, .ref (hs_q X 100)), (1, .int x1)] [] 0 := by
  unfold f_X7_two_0 at h
  refine hs_sipush (v := 256) C dX7_two_0 (by decide) ?_
  refine hs_aload_n C dX7_two_3 0 rfl rfl ?_
  refine gf_X7_89 C dX7_two_4 ?_
  refine hs_iload_n C dX7_two_7 1 rfl rfl ?_
  refine hs_ald (kd := 14) C (Or.inr rfl) rfl (show hs_K 127 = 14 by decide +kernel) h dX7_two_8 (fun h => ?_)
  refine hs_imul C dX7_two_9 ?_
  refine hs_aload_n C dX7_two_10 0 rfl rfl ?_
  refine gf_X7_89 C dX7_two_11 ?_
  refine hs_iload_n C dX7_two_14 1 rfl rfl ?_
  refine hs_iconst (v := 1) C dX7_two_15 (by decide) ?_
  refine hs_iadd C dX7_two_16 ?_
  refine hs_top h (fun x_1 h => ?_)
  refine hs_ald (kd := 14) C (Or.inr rfl) rfl (show hs_K 127 = 14 by decide +kernel) h dX7_two_17 (fun h => ?_)
  refine hs_iadd C dX7_two_18 ?_
  exact hs_ireti C hf h dX7_two_19
theorem m_X7_two (a1 : Int32) (S : hs_M) {r : Int32} {S' : hs_M} (h : f_X7_two a1 S = some (r, S')) : hs_met 1 yX7_two cX7_two 2 (some .int) 0 (fun q => [.ref (q 100), .int a1]) S (fun q => some (.int r)) S' :=
  hs_mkI (res := (r, S')) (by decide +kernel) (by decide) (fun q => Nat.le_of_ble_eq_true rfl) fun X C hf => (t_X7_two_0 C hf a1 S h)
set_option maxRecDepth 100000 in
set_option maxHeartbeats 4000000 in
theorem t_X7_count_36 {X : hs_T} (C : hs_C X 1 RX7 cX7_count 2 0) {res : Int32 × hs_M} (hf : hs_FI X cX7_count res) (y0 : Int32) (S : hs_M) (h : f_X7_count_36 y0 S = some res) : hs_Z X 2 S [] [.int y0] 36 := by
  unfold f_X7_count_36 at h
  exact hs_ireti C hf h dX7_count_36
set_option maxRecDepth 100000 in
set_option maxHeartbeats 4000000 in
theorem t_X7_count_16 {X : hs_T} (C : hs_C X 1 RX7 cX7_count 2 0) {res : Int32 × hs_M} (hf : hs_FI X cX7_count res) (x1 : Int32) (y1 : Int32) (S : hs_M) (h : f_X7_count_16 x1 y1 S = some res) : hs_Z X 2 S [(0, .ref (hs_q X 100)), (1, .int x1)] [.int y1, .ref (hs_q X 100)] 16 := by
  unfold f_X7_count_16 at h
  refine pf_X7_92 C h dX7_count_16 (fun S_1 h => ?_)
  refine hs_aload_n C dX7_count_19 0 rfl rfl ?_
  refine gf_X7_92 C dX7_count_20 ?_
  refine hs_if_ne (tgt := 35) C dX7_count_23 (by decide) h (fun h => ?_) (fun h => ?_)
  · skip
    refine hs_iconst (v := 0) C dX7_count_35 (by decide) ?_
    refine hs_sub [] rfl ?_
    exact t_X7_count_36 C hf  (0 : Int32) S_1 h
  · skip
    refine hs_aload_n C dX7_count_26 0 rfl rfl ?_
    refine gf_X7_83 C dX7_count_27 ?_
    refine hs_iload_n C dX7_count_30 1 rfl rfl ?_
    refine hs_ald (kd := 14) C (Or.inr rfl) rfl (show hs_K 125 = 14 by decide +kernel) h dX7_count_31 (fun h => ?_)
    refine hs_goto (tgt := 36) C dX7_count_32 (by decide) ?_
    refine hs_sub [] rfl ?_
    exact t_X7_count_36 C hf  (S_1 125 x1.toNatClampNeg) S_1 h
set_option maxRecDepth 100000 in
set_option maxHeartbeats 4000000 in
theorem t_X7_count_11 {X : hs_T} (C : hs_C X 1 RX7 cX7_count 2 0) {res : Int32 × hs_M} (hf : hs_FI X cX7_count res) (x1 : Int32) (S : hs_M) (h : f_X7_count_11 x1 S = some res) : hs_Z X 2 S [(0, .ref (hs_q X 100)), (1, .int x1)] [.ref (hs_q X 100)] 11 := by
  unfold f_X7_count_11 at h
  refine hs_iconst (v := 1) C dX7_count_11 (by decide) ?_
  refine hs_goto (tgt := 16) C dX7_count_12 (by decide) ?_
  exact t_X7_count_16 C hf  x1 (1 : Int32) S h
set_option maxRecDepth 100000 in
set_option maxHeartbeats 4000000 in
theorem t_X7_count_0 {X : hs_T} (C : hs_C X 1 RX7 cX7_count 2 0) {res : Int32 × hs_M} (hf : hs_FI X cX7_count res) (x1 : Int32) (S : hs_M) (h : f_X7_count_0 x1 S = some res) : hs_Z X 2 S [(0, .ref (hs_q X 100)), (1, .int x1)] [] 0 := by
  unfold f_X7_count_0 at h
  refine hs_aload_n C dX7_count_0 0 rfl rfl ?_
  refine hs_iload_n C dX7_count_1 1 rfl rfl ?_
  refine hs_if_lt (tgt := 11) C dX7_count_2 (by decide) h (fun h => ?_) (fun h => ?_)
  · skip
    exact t_X7_count_11 C hf  x1 S h
  · skip
    refine hs_iload_n C dX7_count_5 1 rfl rfl ?_
    refine hs_bipush (v := 10) C dX7_count_6 (by decide) ?_
    refine hs_icmp_le (tgt := 15) C dX7_count_8 (by decide) h (fun h => ?_) (fun h => ?_)
    · skip
      refine hs_iconst (v := 0) C dX7_count_15 (by decide) ?_
      exact t_X7_count_16 C hf  x1 (0 : Int32) S h
    · skip
      exact t_X7_count_11 C hf  x1 S h
theorem m_X7_count (a1 : Int32) (S : hs_M) {r : Int32} {S' : hs_M} (h : f_X7_count a1 S = some (r, S')) : hs_met 1 yX7_count cX7_count 2 (some .int) 0 (fun q => [.ref (q 100), .int a1]) S (fun q => some (.int r)) S' :=
  hs_mkI (res := (r, S')) (by decide +kernel) (by decide) (fun q => Nat.le_of_ble_eq_true rfl) fun X C hf => (t_X7_count_0 C hf a1 S h)
set_option maxRecDepth 100000 in
set_option maxHeartbeats 4000000 in
theorem t_X7_off_36 {X : hs_T} (C : hs_C X 1 RX7 cX7_off 4 0) {res : hs_M} (hf : hs_FV X cX7_off res) (K12 : Int32 → hs_M → Option hs_M) (hK12 : ∀ (x2 : Int32) (S : hs_M), K12 x2 S = some res → hs_Z X 4 S [(0, .ref (hs_q X 100)), (2, .int x2)] [] 12) (K36 : Int32 → Int32 → hs_M → Option hs_M) (hK36 : ∀ (x2 : Int32) (x3 : Int32) (S : hs_M), K36 x2 x3 S = some res → hs_Z X 4 S [(0, .ref (hs_q X 100)), (2, .int x2), (3, .int x3)] [] 36) (x2 : Int32) (x3 : Int32) (S : hs_M) (h : fb_X7_off_36 K12 K36 x2 x3 S = some res) : hs_Z X 4 S [(0, .ref (hs_q X 100)), (2, .int x2), (3, .int x3)] [] 36 := by
  unfold fb_X7_off_36 at h
  refine hs_iload_n C dX7_off_36 2 rfl rfl ?_
  refine hs_bipush (v := 20) C dX7_off_37 (by decide) ?_
  refine hs_icmp_ge (tgt := 73) C dX7_off_39 (by decide) h (fun h => ?_) (fun h => ?_)
  · skip
    refine hs_iinc' (1 : Int32) C dX7_off_73 1 rfl (by decide) (by decide) h (fun x_1 h => ?_)
    show hs_Z X _ _ [(2, .int x_1), (0, .ref (hs_q X 100)), (3, .int x3)] _ _
    refine hs_goto (tgt := 12) C dX7_off_76 (by decide) ?_
    refine hs_sub [1, 0] rfl ?_
    exact hK12 x_1 S h
  · skip
    refine hs_aload_n C dX7_off_42 0 rfl rfl ?_
    refine gf_X7_50 C dX7_off_43 ?_
    refine hs_bipush (v := 20) C dX7_off_46 (by decide) ?_
    refine hs_iload_n C dX7_off_48 1 rfl rfl ?_
    refine hs_imul C dX7_off_49 ?_
    refine hs_iload_n C dX7_off_50 2 rfl rfl ?_
    refine hs_iadd C dX7_off_51 ?_
    refine hs_aload_n C dX7_off_52 0 rfl rfl ?_
    refine gf_X7_50 C dX7_off_53 ?_
    refine hs_bipush (v := 20) C dX7_off_56 (by decide) ?_
    refine hs_iload_n C dX7_off_58 1 rfl rfl ?_
    refine hs_imul C dX7_off_59 ?_
    refine hs_bipush (v := 20) C dX7_off_60 (by decide) ?_
    refine hs_iadd C dX7_off_62 ?_
    refine hs_iload_n C dX7_off_63 2 rfl rfl ?_
    refine hs_iadd C dX7_off_64 ?_
    refine hs_top h (fun x_2 h => ?_)
    refine hs_ald (kd := 14) C (Or.inr rfl) rfl (show hs_K 114 = 14 by decide +kernel) h dX7_off_65 (fun h => ?_)
    refine hs_ast (kd := 14) C (Or.inr rfl) rfl (show hs_K 114 = 14 by decide +kernel) h dX7_off_66 (fun S_3 h => ?_)
    refine hs_iinc' (1 : Int32) C dX7_off_67 2 rfl (by decide) (by decide) h (fun x_4 h => ?_)
    show hs_Z X _ _ [(3, .int x_4), (0, .ref (hs_q X 100)), (2, .int x2)] _ _
    refine hs_goto (tgt := 36) C dX7_off_70 (by decide) ?_
    refine hs_sub [1, 2, 0] rfl ?_
    exact hK36 x2 x_4 S_3 h
theorem t_X7_off_36l {X : hs_T} (C : hs_C X 1 RX7 cX7_off 4 0) {res : hs_M} (hf : hs_FV X cX7_off res) (K12 : Int32 → hs_M → Option hs_M) (hK12 : ∀ (x2 : Int32) (S : hs_M), K12 x2 S = some res → hs_Z X 4 S [(0, .ref (hs_q X 100)), (2, .int x2)] [] 12) : ∀ (n : Nat) (x2 : Int32) (x3 : Int32) (S : hs_M), f_X7_off_36 K12 n x2 x3 S = some res → hs_Z X 4 S [(0, .ref (hs_q X 100)), (2, .int x2), (3, .int x3)] [] 36 := by
  intro n
  induction n with
  | zero =>
    intro x2 x3 S h
    cases h
  | succ n ih =>
    intro x2 x3 S h
    exact t_X7_off_36 C hf K12 hK12 (f_X7_off_36 K12 n) ih x2 x3 S h
set_option maxRecDepth 100000 in
set_option maxHeartbeats 4000000 in
theorem t_X7_off_12 {X : hs_T} (C : hs_C X 1 RX7 cX7_off 4 0) {res : hs_M} (hf : hs_FV X cX7_off res) (K12 : Int32 → hs_M → Option hs_M) (hK12 : ∀ (x2 : Int32) (S : hs_M), K12 x2 S = some res → hs_Z X 4 S [(0, .ref (hs_q X 100)), (2, .int x2)] [] 12) (x2 : Int32) (S : hs_M) (h : fb_X7_off_12 K12 x2 S = some res) : hs_Z X 4 S [(0, .ref (hs_q X 100)), (2, .int x2)] [] 12 := by
  unfold fb_X7_off_12 at h
  refine hs_iload_n C dX7_off_12 1 rfl rfl ?_
  refine hs_aload_n C dX7_off_13 0 rfl rfl ?_
  refine gf_X7_154 C dX7_off_14 ?_
  refine hs_icmp_ge (tgt := 79) C dX7_off_17 (by decide) h (fun h => ?_) (fun h => ?_)
  · skip
    exact hs_vret C hf h dX7_off_79
  · skip
    refine hs_aload_n C dX7_off_20 0 rfl rfl ?_
    refine gf_X7_47 C dX7_off_21 ?_
    refine hs_iload_n C dX7_off_24 1 rfl rfl ?_
    refine hs_aload_n C dX7_off_25 0 rfl rfl ?_
    refine gf_X7_47 C dX7_off_26 ?_
    refine hs_iload_n C dX7_off_29 1 rfl rfl ?_
    refine hs_iconst (v := 1) C dX7_off_30 (by decide) ?_
    refine hs_iadd C dX7_off_31 ?_
    refine hs_top h (fun x_1 h => ?_)
    refine hs_ald (kd := 14) C (Or.inr rfl) rfl (show hs_K 113 = 14 by decide +kernel) h dX7_off_32 (fun h => ?_)
    refine hs_ast (kd := 14) C (Or.inr rfl) rfl (show hs_K 113 = 14 by decide +kernel) h dX7_off_33 (fun S_2 h => ?_)
    refine hs_iconst (v := 0) C dX7_off_34 (by decide) ?_
    refine hs_istore_n (lv' := [(3, .int (0 : Int32)), (0, .ref (hs_q X 100)), (2, .int x2)]) C dX7_off_35 rfl (by decide) rfl ?_
    refine hs_sub [1, 2, 0] rfl ?_
    exact t_X7_off_36l C hf K12 hK12 hs_fuel x2 (0 : Int32) S_2 h
theorem t_X7_off_12l {X : hs_T} (C : hs_C X 1 RX7 cX7_off 4 0) {res : hs_M} (hf : hs_FV X cX7_off res)  : ∀ (n : Nat) (x2 : Int32) (S : hs_M), f_X7_off_12  n x2 S = some res → hs_Z X 4 S [(0, .ref (hs_q X 100)), (2, .int x2)] [] 12 := by
  intro n
  induction n with
  | zero =>
    intro x2 S h
    cases h
  | succ n ih =>
    intro x2 S h
    exact t_X7_off_12 C hf  (f_X7_off_12  n) ih x2 S h
set_option maxRecDepth 100000 in
set_option maxHeartbeats 4000000 in
theorem t_X7_off_0 {X : hs_T} (C : hs_C X 1 RX7 cX7_off 4 0) {res : hs_M} (hf : hs_FV X cX7_off res) (x1 : Int32) (S : hs_M) (h : f_X7_off_0 x1 S = some res) : hs_Z X 4 S [(0, .ref (hs_q X 100)), (1, .int x1)] [] 0 := by
  unfold f_X7_off_0 at h
  refine hs_aload_n C dX7_off_0 0 rfl rfl ?_
  refine hs_dup C dX7_off_1 rfl ?_
  refine gf_X7_154 C dX7_off_2 ?_
  refine hs_iconst (v := 1) C dX7_off_5 (by decide) ?_
  refine hs_isub C dX7_off_6 ?_
  refine pf_X7_154 C h dX7_off_7 (fun S_1 h => ?_)
  refine hs_iload_n C dX7_off_10 1 rfl rfl ?_
  refine hs_istore_n (lv' := [(2, .int x1), (0, .ref (hs_q X 100)), (1, .int x1)]) C dX7_off_11 rfl (by decide) rfl ?_
  refine hs_sub [1, 0] rfl ?_
  exact t_X7_off_12l C hf  hs_fuel x1 S_1 h
theorem m_X7_off (a1 : Int32) (S : hs_M) {S' : hs_M} (h : f_X7_off a1 S = some S') : hs_met 1 yX7_off cX7_off 4 none 0 (fun q => [.ref (q 100), .int a1]) S (fun q => none) S' :=
  hs_mkV (res := S') (by decide +kernel) (by decide) (fun q => Nat.le_of_ble_eq_true rfl) fun X C hf => (t_X7_off_0 C hf a1 S h)
set_option maxRecDepth 100000 in
set_option maxHeartbeats 4000000 in
theorem t_X7_kindOf_56 {X : hs_T} (C : hs_C X 1 RX7 cX7_kindOf 2 0) {res : Int32 × hs_M} (hf : hs_FI X cX7_kindOf res) (y0 : Int32) (S : hs_M) (h : f_X7_kindOf_56 y0 S = some res) : hs_Z X 2 S [] [.int y0] 56 := by
  unfold f_X7_kindOf_56 at h
  exact hs_ireti C hf h dX7_kindOf_56
set_option maxRecDepth 100000 in
set_option maxHeartbeats 4000000 in
theorem t_X7_kindOf_0 {X : hs_T} (C : hs_C X 1 RX7 cX7_kindOf 2 0) {res : Int32 × hs_M} (hf : hs_FI X cX7_kindOf res) (x1 : Int32) (S : hs_M) (h : f_X7_kindOf_0 x1 S = some res) : hs_Z X 2 S [(1, .int x1)] [] 0 := by
  unfold f_X7_kindOf_0 at h
  refine hs_iload_n C dX7_kindOf_0 0 rfl rfl ?_
  refine hs_sipush (v := 128) C dX7_kindOf_1 (by decide) ?_
  refine hs_icmp_ge (tgt := 11) C dX7_kindOf_4 (by decide) h (fun h => ?_) (fun h => ?_)
  · skip
    refine hs_iload_n C dX7_kindOf_11 0 rfl rfl ?_
    refine hs_sipush (v := 192) C dX7_kindOf_12 (by decide) ?_
    refine hs_icmp_ge (tgt := 22) C dX7_kindOf_15 (by decide) h (fun h => ?_) (fun h => ?_)
    · skip
      refine hs_iload_n C dX7_kindOf_22 0 rfl rfl ?_
      refine hs_sipush (v := 224) C dX7_kindOf_23 (by decide) ?_
      refine hs_icmp_ge (tgt := 33) C dX7_kindOf_26 (by decide) h (fun h => ?_) (fun h => ?_)
      · skip
        refine hs_iload_n C dX7_kindOf_33 0 rfl rfl ?_
        refine hs_sipush (v := 248) C dX7_kindOf_34 (by decide) ?_
        refine hs_icmp_ne (tgt := 44) C dX7_kindOf_37 (by decide) h (fun h => ?_) (fun h => ?_)
        · skip
          refine hs_iload_n C dX7_kindOf_44 0 rfl rfl ?_
          refine hs_sipush (v := 253) C dX7_kindOf_45 (by decide) ?_
          refine hs_icmp_ne (tgt := 55) C dX7_kindOf_48 (by decide) h (fun h => ?_) (fun h => ?_)
          · skip
            refine hs_iconst (v := (-1)) C dX7_kindOf_55 (by decide) ?_
            refine hs_sub [] rfl ?_
            exact t_X7_kindOf_56 C hf  (-1 : Int32) S h
          · skip
            refine hs_iconst (v := 4) C dX7_kindOf_51 (by decide) ?_
            refine hs_goto (tgt := 56) C dX7_kindOf_52 (by decide) ?_
            refine hs_sub [] rfl ?_
            exact t_X7_kindOf_56 C hf  (4 : Int32) S h
        · skip
          refine hs_iconst (v := 3) C dX7_kindOf_40 (by decide) ?_
          refine hs_goto (tgt := 56) C dX7_kindOf_41 (by decide) ?_
          refine hs_sub [] rfl ?_
          exact t_X7_kindOf_56 C hf  (3 : Int32) S h
      · skip
        refine hs_iconst (v := 2) C dX7_kindOf_29 (by decide) ?_
        refine hs_goto (tgt := 56) C dX7_kindOf_30 (by decide) ?_
        refine hs_sub [] rfl ?_
        exact t_X7_kindOf_56 C hf  (2 : Int32) S h
    · skip
      refine hs_iconst (v := 1) C dX7_kindOf_18 (by decide) ?_
      refine hs_goto (tgt := 56) C dX7_kindOf_19 (by decide) ?_
      refine hs_sub [] rfl ?_
      exact t_X7_kindOf_56 C hf  (1 : Int32) S h
  · skip
    refine hs_iconst (v := 0) C dX7_kindOf_7 (by decide) ?_
    refine hs_goto (tgt := 56) C dX7_kindOf_8 (by decide) ?_
    refine hs_sub [] rfl ?_
    exact t_X7_kindOf_56 C hf  (0 : Int32) S h
theorem m_X7_kindOf (a1 : Int32) (S : hs_M) {r : Int32} {S' : hs_M} (h : f_X7_kindOf a1 S = some (r, S')) : hs_met 1 yX7_kindOf cX7_kindOf 2 (some .int) 0 (fun q => [.ref (q 100), .int a1]) S (fun q => some (.int r)) S' :=
  hs_mkI (res := (r, S')) (by decide +kernel) (by decide) (fun q => Nat.le_of_ble_eq_true rfl) fun X C hf => hs_sub [1] rfl (t_X7_kindOf_0 C hf a1 S h)
set_option maxRecDepth 100000 in
set_option maxHeartbeats 4000000 in
theorem t_X7_fail_65 {X : hs_T} (C : hs_C X 1 RX7 cX7_fail 2 0) {res : hs_M} (hf : hs_FV X cX7_fail res) (S : hs_M) (h : f_X7_fail_65  S = some res) : hs_Z X 2 S [] [] 65 := by
  unfold f_X7_fail_65 at h
  exact hs_vret C hf h dX7_fail_65
set_option maxRecDepth 100000 in
set_option maxHeartbeats 4000000 in
theorem t_X7_fail_64 {X : hs_T} (C : hs_C X 1 RX7 cX7_fail 2 0) {res : hs_M} (hf : hs_FV X cX7_fail res) (y1 : Int32) (y2 : Int32) (S : hs_M) (h : f_X7_fail_64 y1 y2 S = some res) : hs_Z X 2 S [] [.int y2, .int y1, .ref (hs_q X 115)] 64 := by
  unfold f_X7_fail_64 at h
  refine hs_ast (kd := 14) C (Or.inr rfl) rfl (show hs_K 115 = 14 by decide +kernel) h dX7_fail_64 (fun S_1 h => ?_)
  exact t_X7_fail_65 C hf   S_1 h
set_option maxRecDepth 100000 in
set_option maxHeartbeats 4000000 in
theorem t_X7_fail_0 {X : hs_T} (C : hs_C X 1 RX7 cX7_fail 2 0) {res : hs_M} (hf : hs_FV X cX7_fail res) (x1 : Int32) (S : hs_M) (h : f_X7_fail_0 x1 S = some res) : hs_Z X 2 S [(0, .ref (hs_q X 100)), (1, .int x1)] [] 0 := by
  unfold f_X7_fail_0 at h
  refine hs_aload_n C dX7_fail_0 0 rfl rfl ?_
  refine gf_X7_83 C dX7_fail_1 ?_
  refine hs_bipush (v := 10) C dX7_fail_4 (by decide) ?_
  refine hs_dup2 C dX7_fail_6 rfl rfl ?_
  refine hs_ald (kd := 14) C (Or.inr rfl) rfl (show hs_K 125 = 14 by decide +kernel) h dX7_fail_7 (fun h => ?_)
  refine hs_iconst (v := 1) C dX7_fail_8 (by decide) ?_
  refine hs_iadd C dX7_fail_9 ?_
  refine hs_ast (kd := 14) C (Or.inr rfl) rfl (show hs_K 125 = 14 by decide +kernel) h dX7_fail_10 (fun S_1 h => ?_)
  refine hs_aload_n C dX7_fail_11 0 rfl rfl ?_
  refine gf_X7_77 C dX7_fail_12 ?_
  refine hs_iload_n C dX7_fail_15 1 rfl rfl ?_
  refine hs_dup2 C dX7_fail_16 rfl rfl ?_
  refine hs_ald (kd := 14) C (Or.inr rfl) rfl (show hs_K 123 = 14 by decide +kernel) h dX7_fail_17 (fun h => ?_)
  refine hs_iconst (v := 1) C dX7_fail_18 (by decide) ?_
  refine hs_iadd C dX7_fail_19 ?_
  refine hs_ast (kd := 14) C (Or.inr rfl) rfl (show hs_K 123 = 14 by decide +kernel) h dX7_fail_20 (fun S_2 h => ?_)
  refine hs_aload_n C dX7_fail_21 0 rfl rfl ?_
  refine gf_X7_77 C dX7_fail_22 ?_
  refine hs_iload_n C dX7_fail_25 1 rfl rfl ?_
  refine hs_ald (kd := 14) C (Or.inr rfl) rfl (show hs_K 123 = 14 by decide +kernel) h dX7_fail_26 (fun h => ?_)
  refine hs_iconst (v := 3) C dX7_fail_27 (by decide) ?_
  refine hs_icmp_ne (tgt := 65) C dX7_fail_28 (by decide) h (fun h => ?_) (fun h => ?_)
  · skip
    refine hs_sub [] rfl ?_
    exact t_X7_fail_65 C hf   S_2 h
  · skip
    refine hs_aload_n C dX7_fail_31 0 rfl rfl ?_
    refine gf_X7_77 C dX7_fail_32 ?_
    refine hs_iload_n C dX7_fail_35 1 rfl rfl ?_
    refine hs_iconst (v := 0) C dX7_fail_36 (by decide) ?_
    refine hs_ast (kd := 14) C (Or.inr rfl) rfl (show hs_K 123 = 14 by decide +kernel) h dX7_fail_37 (fun S_3 h => ?_)
    refine hs_aload_n C dX7_fail_38 0 rfl rfl ?_
    refine gf_X7_53 C dX7_fail_39 ?_
    refine hs_iload_n C dX7_fail_42 1 rfl rfl ?_
    refine hs_aload_n C dX7_fail_43 0 rfl rfl ?_
    refine gf_X7_53 C dX7_fail_44 ?_
    refine hs_iload_n C dX7_fail_47 1 rfl rfl ?_
    refine hs_ald (kd := 14) C (Or.inr rfl) rfl (show hs_K 115 = 14 by decide +kernel) h dX7_fail_48 (fun h => ?_)
    refine hs_if_le (tgt := 63) C dX7_fail_49 (by decide) h (fun h => ?_) (fun h => ?_)
    · skip
      refine hs_iconst (v := 0) C dX7_fail_63 (by decide) ?_
      refine hs_sub [] rfl ?_
      exact t_X7_fail_64 C hf  x1 (0 : Int32) S_3 h
    · skip
      refine hs_aload_n C dX7_fail_52 0 rfl rfl ?_
      refine gf_X7_53 C dX7_fail_53 ?_
      refine hs_iload_n C dX7_fail_56 1 rfl rfl ?_
      refine hs_ald (kd := 14) C (Or.inr rfl) rfl (show hs_K 115 = 14 by decide +kernel) h dX7_fail_57 (fun h => ?_)
      refine hs_iconst (v := 1) C dX7_fail_58 (by decide) ?_
      refine hs_isub C dX7_fail_59 ?_
      refine hs_goto (tgt := 64) C dX7_fail_60 (by decide) ?_
      refine hs_sub [] rfl ?_
      exact t_X7_fail_64 C hf  x1 ((S_3 115 x1.toNatClampNeg) - (1 : Int32)) S_3 h
theorem m_X7_fail (a1 : Int32) (S : hs_M) {S' : hs_M} (h : f_X7_fail a1 S = some S') : hs_met 1 yX7_fail cX7_fail 2 none 0 (fun q => [.ref (q 100), .int a1]) S (fun q => none) S' :=
  hs_mkV (res := S') (by decide +kernel) (by decide) (fun q => Nat.le_of_ble_eq_true rfl) fun X C hf => (t_X7_fail_0 C hf a1 S h)
set_option maxRecDepth 100000 in
set_option maxHeartbeats 4000000 in
theorem t_X7_outside_15 {X : hs_T} (C : hs_C X 1 RX7 cX7_outside 2 0) {res : Int32 × hs_M} (hf : hs_FB X cX7_outside res) (y0 : Int32) (S : hs_M) (h : f_X7_outside_15 y0 S = some res) : hs_Z X 2 S [] [.int y0] 15 := by
  unfold f_X7_outside_15 at h
  exact hs_iretb C hf h dX7_outside_15
set_option maxRecDepth 100000 in
set_option maxHeartbeats 4000000 in
theorem t_X7_outside_10 {X : hs_T} (C : hs_C X 1 RX7 cX7_outside 2 0) {res : Int32 × hs_M} (hf : hs_FB X cX7_outside res) (S : hs_M) (h : f_X7_outside_10  S = some res) : hs_Z X 2 S [] [] 10 := by
  unfold f_X7_outside_10 at h
  refine hs_iconst (v := 1) C dX7_outside_10 (by decide) ?_
  refine hs_goto (tgt := 15) C dX7_outside_11 (by decide) ?_
  exact t_X7_outside_15 C hf  (1 : Int32) S h
set_option maxRecDepth 100000 in
set_option maxHeartbeats 4000000 in
theorem t_X7_outside_0 {X : hs_T} (C : hs_C X 1 RX7 cX7_outside 2 0) {res : Int32 × hs_M} (hf : hs_FB X cX7_outside res) (x1 : Int32) (S : hs_M) (h : f_X7_outside_0 x1 S = some res) : hs_Z X 2 S [(1, .int x1)] [] 0 := by
  unfold f_X7_outside_0 at h
  refine hs_iload_n C dX7_outside_0 0 rfl rfl ?_
  refine hs_if_lt (tgt := 10) C dX7_outside_1 (by decide) h (fun h => ?_) (fun h => ?_)
  · skip
    refine hs_sub [] rfl ?_
    exact t_X7_outside_10 C hf   S h
  · skip
    refine hs_iload_n C dX7_outside_4 0 rfl rfl ?_
    refine hs_ldc C ww_313 dX7_outside_5 ?_
    refine hs_icmp_le (tgt := 14) C dX7_outside_7 (by decide) h (fun h => ?_) (fun h => ?_)
    · skip
      refine hs_iconst (v := 0) C dX7_outside_14 (by decide) ?_
      refine hs_sub [] rfl ?_
      exact t_X7_outside_15 C hf  (0 : Int32) S h
    · skip
      refine hs_sub [] rfl ?_
      exact t_X7_outside_10 C hf   S h
theorem m_X7_outside (a1 : Int32) (S : hs_M) {r : Int32} {S' : hs_M} (h : f_X7_outside a1 S = some (r, S')) : hs_met 1 yX7_outside cX7_outside 2 (some .boolean) 0 (fun q => [.ref (q 100), .int a1]) S (fun q => some (.int r)) S' :=
  hs_mkB (res := (r, S')) (by decide +kernel) (by decide) (fun q => Nat.le_of_ble_eq_true rfl) fun X C hf => hs_sub [1] rfl (t_X7_outside_0 C hf a1 S h)
set_option maxRecDepth 100000 in
set_option maxHeartbeats 4000000 in
theorem t_X7_head_49 {X : hs_T} (C : hs_C X 1 RX7 cX7_head 4 1) {res : hs_M} (hf : hs_FV X cX7_head res) (S : hs_M) (h : f_X7_head_49  S = some res) : hs_Z X 4 S [] [] 49 := by
  unfold f_X7_head_49 at h
  exact hs_vret C hf h dX7_head_49
set_option maxRecDepth 100000 in
set_option maxHeartbeats 4000000 in
theorem t_X7_head_24 {X : hs_T} (C : hs_C X 1 RX7 cX7_head 4 1) {res : hs_M} (hf : hs_FV X cX7_head res) (x1 : Int32) (x2 : Int32) (x3 : Int32) (y1 : Int32) (S : hs_M) (h : f_X7_head_24 x1 x2 x3 y1 S = some res) : hs_Z X 4 S [(0, .ref (hs_q X 100)), (1, .int x1), (2, .int x2), (3, .int x3)] [.int y1, .ref (hs_q X 100)] 24 := by
  unfold f_X7_head_24 at h
  refine pf_X7_92 C h dX7_head_24 (fun S_1 h => ?_)
  refine hs_aload_n C dX7_head_27 0 rfl rfl ?_
  refine gf_X7_92 C dX7_head_28 ?_
  refine hs_if_ne (tgt := 49) C dX7_head_31 (by decide) h (fun h => ?_) (fun h => ?_)
  · skip
    refine hs_sub [] rfl ?_
    exact t_X7_head_49 C hf   S_1 h
  · skip
    refine hs_aload_n C dX7_head_34 0 rfl rfl ?_
    refine hs_iload_n C dX7_head_35 1 rfl rfl ?_
    refine pf_X7_104 C h dX7_head_36 (fun S_2 h => ?_)
    refine hs_aload_n C dX7_head_39 0 rfl rfl ?_
    refine hs_iload_n C dX7_head_40 2 rfl rfl ?_
    refine pf_X7_107 C h dX7_head_41 (fun S_3 h => ?_)
    refine hs_aload_n C dX7_head_44 0 rfl rfl ?_
    refine hs_iload_n C dX7_head_45 3 rfl rfl ?_
    refine pf_X7_110 C h dX7_head_46 (fun S_4 h => ?_)
    refine hs_sub [] rfl ?_
    exact t_X7_head_49 C hf   S_4 h
set_option maxRecDepth 100000 in
set_option maxHeartbeats 4000000 in
theorem t_X7_head_19 {X : hs_T} (C : hs_C X 1 RX7 cX7_head 4 1) {res : hs_M} (hf : hs_FV X cX7_head res) (x1 : Int32) (x2 : Int32) (x3 : Int32) (S : hs_M) (h : f_X7_head_19 x1 x2 x3 S = some res) : hs_Z X 4 S [(0, .ref (hs_q X 100)), (1, .int x1), (2, .int x2), (3, .int x3)] [.ref (hs_q X 100)] 19 := by
  unfold f_X7_head_19 at h
  refine hs_iconst (v := 1) C dX7_head_19 (by decide) ?_
  refine hs_goto (tgt := 24) C dX7_head_20 (by decide) ?_
  exact t_X7_head_24 C hf  x1 x2 x3 (1 : Int32) S h
set_option maxRecDepth 100000 in
set_option maxHeartbeats 4000000 in
theorem t_X7_head_0 {X : hs_T} (C : hs_C X 1 RX7 cX7_head 4 1) {res : hs_M} (hf : hs_FV X cX7_head res) (x1 : Int32) (x2 : Int32) (x3 : Int32) (S : hs_M) (h : f_X7_head_0 x1 x2 x3 S = some res) : hs_Z X 4 S [(0, .ref (hs_q X 100)), (1, .int x1), (2, .int x2), (3, .int x3)] [] 0 := by
  unfold f_X7_head_0 at h
  refine hs_aload_n C dX7_head_0 0 rfl rfl ?_
  refine hs_aload_n C dX7_head_1 0 rfl rfl ?_
  refine hs_iload_n C dX7_head_2 1 rfl rfl ?_
  obtain ⟨r_3, S_1, hc_2, h⟩ := hs_b2_s h
  refine cs_X7_101 C (m_X7_outside x1 S hc_2) (by decide) (Nat.le_of_ble_eq_true rfl) dX7_head_3 ?_
  refine hs_if_ne (tgt := 19) C dX7_head_6 (by decide) h (fun h => ?_) (fun h => ?_)
  · skip
    exact t_X7_head_19 C hf  x1 x2 x3 S_1 h
  · skip
    refine hs_iload_n C dX7_head_9 2 rfl rfl ?_
    refine hs_if_lt (tgt := 19) C dX7_head_10 (by decide) h (fun h => ?_) (fun h => ?_)
    · skip
      exact t_X7_head_19 C hf  x1 x2 x3 S_1 h
    · skip
      refine hs_iload_n C dX7_head_13 2 rfl rfl ?_
      refine hs_bipush (v := 127) C dX7_head_14 (by decide) ?_
      refine hs_icmp_le (tgt := 23) C dX7_head_16 (by decide) h (fun h => ?_) (fun h => ?_)
      · skip
        refine hs_iconst (v := 0) C dX7_head_23 (by decide) ?_
        exact t_X7_head_24 C hf  x1 x2 x3 (0 : Int32) S_1 h
      · skip
        exact t_X7_head_19 C hf  x1 x2 x3 S_1 h
theorem m_X7_head (a1 : Int32) (a2 : Int32) (a3 : Int32) (S : hs_M) {S' : hs_M} (h : f_X7_head a1 a2 a3 S = some S') : hs_met 1 yX7_head cX7_head 4 none 1 (fun q => [.ref (q 100), .int a1, .int a2, .int a3]) S (fun q => none) S' :=
  hs_mkV (res := S') (by decide +kernel) (by decide) (fun q => Nat.le_of_ble_eq_true rfl) fun X C hf => (t_X7_head_0 C hf a1 a2 a3 S h)
set_option maxRecDepth 100000 in
set_option maxHeartbeats 4000000 in
theorem t_X7_line_0 {X : hs_T} (C : hs_C X 1 RX7 cX7_line 1 0) {res : Int32 × hs_M} (hf : hs_FI X cX7_line res) (S : hs_M) (h : f_X7_line_0  S = some res) : hs_Z X 1 S [(0, .ref (hs_q X 100))] [] 0 := by
  unfold f_X7_line_0 at h
  refine hs_aload_n C dX7_line_0 0 rfl rfl ?_
  refine hs_iconst (v := 0) C dX7_line_1 (by decide) ?_
  refine pf_X7_92 C h dX7_line_2 (fun S_1 h => ?_)
  refine hs_aload_n C dX7_line_5 0 rfl rfl ?_
  refine gf_X7_154 C dX7_line_6 ?_
  exact hs_ireti C hf h dX7_line_9
theorem m_X7_line  (S : hs_M) {r : Int32} {S' : hs_M} (h : f_X7_line  S = some (r, S')) : hs_met 1 yX7_line cX7_line 1 (some .int) 0 (fun q => [.ref (q 100)]) S (fun q => some (.int r)) S' :=
  hs_mkI (res := (r, S')) (by decide +kernel) (by decide) (fun q => Nat.le_of_ble_eq_true rfl) fun X C hf => (t_X7_line_0 C hf  S h)
set_option maxRecDepth 100000 in
set_option maxHeartbeats 4000000 in
theorem t_X7_lose_29 {X : hs_T} (C : hs_C X 1 RX7 cX7_lose 2 1) {res : hs_M} (hf : hs_FV X cX7_lose res) (S : hs_M) (h : f_X7_lose_29  S = some res) : hs_Z X 2 S [] [] 29 := by
  unfold f_X7_lose_29 at h
  exact hs_vret C hf h dX7_lose_29
set_option maxRecDepth 100000 in
set_option maxHeartbeats 4000000 in
theorem t_X7_lose_14 {X : hs_T} (C : hs_C X 1 RX7 cX7_lose 2 1) {res : hs_M} (hf : hs_FV X cX7_lose res) (x1 : Int32) (y1 : Int32) (S : hs_M) (h : f_X7_lose_14 x1 y1 S = some res) : hs_Z X 2 S [(0, .ref (hs_q X 100)), (1, .int x1)] [.int y1, .ref (hs_q X 100)] 14 := by
  unfold f_X7_lose_14 at h
  refine pf_X7_92 C h dX7_lose_14 (fun S_1 h => ?_)
  refine hs_aload_n C dX7_lose_17 0 rfl rfl ?_
  refine gf_X7_92 C dX7_lose_18 ?_
  refine hs_if_ne (tgt := 29) C dX7_lose_21 (by decide) h (fun h => ?_) (fun h => ?_)
  · skip
    refine hs_sub [] rfl ?_
    exact t_X7_lose_29 C hf   S_1 h
  · skip
    refine hs_aload_n C dX7_lose_24 0 rfl rfl ?_
    refine hs_iload_n C dX7_lose_25 1 rfl rfl ?_
    obtain ⟨S_2, hc_3, h⟩ := hs_b1_s h
    refine cs_X7_164 C (m_X7_off x1 S_1 hc_3) (by decide) (Nat.le_of_ble_eq_true rfl) dX7_lose_26 ?_
    refine hs_sub [] rfl ?_
    exact t_X7_lose_29 C hf   S_2 h
set_option maxRecDepth 100000 in
set_option maxHeartbeats 4000000 in
theorem t_X7_lose_0 {X : hs_T} (C : hs_C X 1 RX7 cX7_lose 2 1) {res : hs_M} (hf : hs_FV X cX7_lose res) (x1 : Int32) (S : hs_M) (h : f_X7_lose_0 x1 S = some res) : hs_Z X 2 S [(0, .ref (hs_q X 100)), (1, .int x1)] [] 0 := by
  unfold f_X7_lose_0 at h
  refine hs_aload_n C dX7_lose_0 0 rfl rfl ?_
  refine hs_aload_n C dX7_lose_1 0 rfl rfl ?_
  refine hs_iload_n C dX7_lose_2 1 rfl rfl ?_
  obtain ⟨r_3, S_1, hc_2, h⟩ := hs_b2_s h
  refine cs_X7_157 C (m_X7_noPacket x1 S hc_2) (by decide) (Nat.le_of_ble_eq_true rfl) dX7_lose_3 ?_
  refine hs_if_eq (tgt := 13) C dX7_lose_6 (by decide) h (fun h => ?_) (fun h => ?_)
  · skip
    refine hs_iconst (v := 0) C dX7_lose_13 (by decide) ?_
    exact t_X7_lose_14 C hf  x1 (0 : Int32) S_1 h
  · skip
    refine hs_iconst (v := 1) C dX7_lose_9 (by decide) ?_
    refine hs_goto (tgt := 14) C dX7_lose_10 (by decide) ?_
    exact t_X7_lose_14 C hf  x1 (1 : Int32) S_1 h
theorem m_X7_lose (a1 : Int32) (S : hs_M) {S' : hs_M} (h : f_X7_lose a1 S = some S') : hs_met 1 yX7_lose cX7_lose 2 none 1 (fun q => [.ref (q 100), .int a1]) S (fun q => none) S' :=
  hs_mkV (res := S') (by decide +kernel) (by decide) (fun q => Nat.le_of_ble_eq_true rfl) fun X C hf => (t_X7_lose_0 C hf a1 S h)
set_option maxRecDepth 100000 in
set_option maxHeartbeats 4000000 in
theorem t_X7_made_36 {X : hs_T} (C : hs_C X 1 RX7 cX7_made 2 0) {res : Int32 × hs_M} (hf : hs_FI X cX7_made res) (y0 : Int32) (S : hs_M) (h : f_X7_made_36 y0 S = some res) : hs_Z X 2 S [] [.int y0] 36 := by
  unfold f_X7_made_36 at h
  exact hs_ireti C hf h dX7_made_36
set_option maxRecDepth 100000 in
set_option maxHeartbeats 4000000 in
theorem t_X7_made_16 {X : hs_T} (C : hs_C X 1 RX7 cX7_made 2 0) {res : Int32 × hs_M} (hf : hs_FI X cX7_made res) (x1 : Int32) (y1 : Int32) (S : hs_M) (h : f_X7_made_16 x1 y1 S = some res) : hs_Z X 2 S [(0, .ref (hs_q X 100)), (1, .int x1)] [.int y1, .ref (hs_q X 100)] 16 := by
  unfold f_X7_made_16 at h
  refine pf_X7_92 C h dX7_made_16 (fun S_1 h => ?_)
  refine hs_aload_n C dX7_made_19 0 rfl rfl ?_
  refine gf_X7_92 C dX7_made_20 ?_
  refine hs_if_ne (tgt := 35) C dX7_made_23 (by decide) h (fun h => ?_) (fun h => ?_)
  · skip
    refine hs_iconst (v := 0) C dX7_made_35 (by decide) ?_
    refine hs_sub [] rfl ?_
    exact t_X7_made_36 C hf  (0 : Int32) S_1 h
  · skip
    refine hs_aload_n C dX7_made_26 0 rfl rfl ?_
    refine gf_X7_80 C dX7_made_27 ?_
    refine hs_iload_n C dX7_made_30 1 rfl rfl ?_
    refine hs_ald (kd := 14) C (Or.inr rfl) rfl (show hs_K 124 = 14 by decide +kernel) h dX7_made_31 (fun h => ?_)
    refine hs_goto (tgt := 36) C dX7_made_32 (by decide) ?_
    refine hs_sub [] rfl ?_
    exact t_X7_made_36 C hf  (S_1 124 x1.toNatClampNeg) S_1 h
set_option maxRecDepth 100000 in
set_option maxHeartbeats 4000000 in
theorem t_X7_made_11 {X : hs_T} (C : hs_C X 1 RX7 cX7_made 2 0) {res : Int32 × hs_M} (hf : hs_FI X cX7_made res) (x1 : Int32) (S : hs_M) (h : f_X7_made_11 x1 S = some res) : hs_Z X 2 S [(0, .ref (hs_q X 100)), (1, .int x1)] [.ref (hs_q X 100)] 11 := by
  unfold f_X7_made_11 at h
  refine hs_iconst (v := 1) C dX7_made_11 (by decide) ?_
  refine hs_goto (tgt := 16) C dX7_made_12 (by decide) ?_
  exact t_X7_made_16 C hf  x1 (1 : Int32) S h
set_option maxRecDepth 100000 in
set_option maxHeartbeats 4000000 in
theorem t_X7_made_0 {X : hs_T} (C : hs_C X 1 RX7 cX7_made 2 0) {res : Int32 × hs_M} (hf : hs_FI X cX7_made res) (x1 : Int32) (S : hs_M) (h : f_X7_made_0 x1 S = some res) : hs_Z X 2 S [(0, .ref (hs_q X 100)), (1, .int x1)] [] 0 := by
  unfold f_X7_made_0 at h
  refine hs_aload_n C dX7_made_0 0 rfl rfl ?_
  refine hs_iload_n C dX7_made_1 1 rfl rfl ?_
  refine hs_if_lt (tgt := 11) C dX7_made_2 (by decide) h (fun h => ?_) (fun h => ?_)
  · skip
    exact t_X7_made_11 C hf  x1 S h
  · skip
    refine hs_iload_n C dX7_made_5 1 rfl rfl ?_
    refine hs_bipush (v := 10) C dX7_made_6 (by decide) ?_
    refine hs_icmp_le (tgt := 15) C dX7_made_8 (by decide) h (fun h => ?_) (fun h => ?_)
    · skip
      refine hs_iconst (v := 0) C dX7_made_15 (by decide) ?_
      exact t_X7_made_16 C hf  x1 (0 : Int32) S h
    · skip
      exact t_X7_made_11 C hf  x1 S h
theorem m_X7_made (a1 : Int32) (S : hs_M) {r : Int32} {S' : hs_M} (h : f_X7_made a1 S = some (r, S')) : hs_met 1 yX7_made cX7_made 2 (some .int) 0 (fun q => [.ref (q 100), .int a1]) S (fun q => some (.int r)) S' :=
  hs_mkI (res := (r, S')) (by decide +kernel) (by decide) (fun q => Nat.le_of_ble_eq_true rfl) fun X C hf => (t_X7_made_0 C hf a1 S h)
set_option maxRecDepth 100000 in
set_option maxHeartbeats 4000000 in
theorem t_X7_noFlow_14 {X : hs_T} (C : hs_C X 1 RX7 cX7_noFlow 2 0) {res : Int32 × hs_M} (hf : hs_FB X cX7_noFlow res) (y0 : Int32) (S : hs_M) (h : f_X7_noFlow_14 y0 S = some res) : hs_Z X 2 S [] [.int y0] 14 := by
  unfold f_X7_noFlow_14 at h
  exact hs_iretb C hf h dX7_noFlow_14
set_option maxRecDepth 100000 in
set_option maxHeartbeats 4000000 in
theorem t_X7_noFlow_9 {X : hs_T} (C : hs_C X 1 RX7 cX7_noFlow 2 0) {res : Int32 × hs_M} (hf : hs_FB X cX7_noFlow res) (S : hs_M) (h : f_X7_noFlow_9  S = some res) : hs_Z X 2 S [] [] 9 := by
  unfold f_X7_noFlow_9 at h
  refine hs_iconst (v := 1) C dX7_noFlow_9 (by decide) ?_
  refine hs_goto (tgt := 14) C dX7_noFlow_10 (by decide) ?_
  exact t_X7_noFlow_14 C hf  (1 : Int32) S h
set_option maxRecDepth 100000 in
set_option maxHeartbeats 4000000 in
theorem t_X7_noFlow_0 {X : hs_T} (C : hs_C X 1 RX7 cX7_noFlow 2 0) {res : Int32 × hs_M} (hf : hs_FB X cX7_noFlow res) (x1 : Int32) (S : hs_M) (h : f_X7_noFlow_0 x1 S = some res) : hs_Z X 2 S [(1, .int x1)] [] 0 := by
  unfold f_X7_noFlow_0 at h
  refine hs_iload_n C dX7_noFlow_0 0 rfl rfl ?_
  refine hs_if_lt (tgt := 9) C dX7_noFlow_1 (by decide) h (fun h => ?_) (fun h => ?_)
  · skip
    refine hs_sub [] rfl ?_
    exact t_X7_noFlow_9 C hf   S h
  · skip
    refine hs_iload_n C dX7_noFlow_4 0 rfl rfl ?_
    refine hs_iconst (v := 3) C dX7_noFlow_5 (by decide) ?_
    refine hs_icmp_le (tgt := 13) C dX7_noFlow_6 (by decide) h (fun h => ?_) (fun h => ?_)
    · skip
      refine hs_iconst (v := 0) C dX7_noFlow_13 (by decide) ?_
      refine hs_sub [] rfl ?_
      exact t_X7_noFlow_14 C hf  (0 : Int32) S h
    · skip
      refine hs_sub [] rfl ?_
      exact t_X7_noFlow_9 C hf   S h
theorem m_X7_noFlow (a1 : Int32) (S : hs_M) {r : Int32} {S' : hs_M} (h : f_X7_noFlow a1 S = some (r, S')) : hs_met 1 yX7_noFlow cX7_noFlow 2 (some .boolean) 0 (fun q => [.ref (q 100), .int a1]) S (fun q => some (.int r)) S' :=
  hs_mkB (res := (r, S')) (by decide +kernel) (by decide) (fun q => Nat.le_of_ble_eq_true rfl) fun X C hf => hs_sub [1] rfl (t_X7_noFlow_0 C hf a1 S h)
set_option maxRecDepth 100000 in
set_option maxHeartbeats 4000000 in
theorem t_X7_note_52 {X : hs_T} (C : hs_C X 1 RX7 cX7_note 4 0) {res : hs_M} (hf : hs_FV X cX7_note res) (x1 : Int32) (x2 : Int32) (S : hs_M) (h : f_X7_note_52 x1 x2 S = some res) : hs_Z X 4 S [(0, .ref (hs_q X 100)), (1, .int x1), (2, .int x2)] [] 52 := by
  unfold f_X7_note_52 at h
  refine hs_aload_n C dX7_note_52 0 rfl rfl ?_
  refine gf_X7_44 C dX7_note_53 ?_
  refine hs_iconst (v := 4) C dX7_note_56 (by decide) ?_
  refine hs_iload_n C dX7_note_57 1 rfl rfl ?_
  refine hs_imul C dX7_note_58 ?_
  refine hs_aload_n C dX7_note_59 0 rfl rfl ?_
  refine gf_X7_41 C dX7_note_60 ?_
  refine hs_iload_n C dX7_note_63 1 rfl rfl ?_
  refine hs_ald (kd := 14) C (Or.inr rfl) rfl (show hs_K 111 = 14 by decide +kernel) h dX7_note_64 (fun h => ?_)
  refine hs_iadd C dX7_note_65 ?_
  refine hs_iload_n C dX7_note_66 2 rfl rfl ?_
  refine hs_ast (kd := 14) C (Or.inr rfl) rfl (show hs_K 112 = 14 by decide +kernel) h dX7_note_67 (fun S_1 h => ?_)
  refine hs_aload_n C dX7_note_68 0 rfl rfl ?_
  refine gf_X7_41 C dX7_note_69 ?_
  refine hs_iload_n C dX7_note_72 1 rfl rfl ?_
  refine hs_dup2 C dX7_note_73 rfl rfl ?_
  refine hs_ald (kd := 14) C (Or.inr rfl) rfl (show hs_K 111 = 14 by decide +kernel) h dX7_note_74 (fun h => ?_)
  refine hs_iconst (v := 1) C dX7_note_75 (by decide) ?_
  refine hs_iadd C dX7_note_76 ?_
  refine hs_ast (kd := 14) C (Or.inr rfl) rfl (show hs_K 111 = 14 by decide +kernel) h dX7_note_77 (fun S_2 h => ?_)
  exact hs_vret C hf h dX7_note_78
set_option maxRecDepth 100000 in
set_option maxHeartbeats 4000000 in
theorem t_X7_note_12 {X : hs_T} (C : hs_C X 1 RX7 cX7_note 4 0) {res : hs_M} (hf : hs_FV X cX7_note res) (K12 : Int32 → Int32 → Int32 → hs_M → Option hs_M) (hK12 : ∀ (x1 : Int32) (x2 : Int32) (x3 : Int32) (S : hs_M), K12 x1 x2 x3 S = some res → hs_Z X 4 S [(0, .ref (hs_q X 100)), (1, .int x1), (2, .int x2), (3, .int x3)] [] 12) (x1 : Int32) (x2 : Int32) (x3 : Int32) (S : hs_M) (h : fb_X7_note_12 K12 x1 x2 x3 S = some res) : hs_Z X 4 S [(0, .ref (hs_q X 100)), (1, .int x1), (2, .int x2), (3, .int x3)] [] 12 := by
  unfold fb_X7_note_12 at h
  refine hs_iload_n C dX7_note_12 3 rfl rfl ?_
  refine hs_iconst (v := 3) C dX7_note_13 (by decide) ?_
  refine hs_icmp_ge (tgt := 45) C dX7_note_14 (by decide) h (fun h => ?_) (fun h => ?_)
  · skip
    refine hs_aload_n C dX7_note_45 0 rfl rfl ?_
    refine gf_X7_41 C dX7_note_46 ?_
    refine hs_iload_n C dX7_note_49 1 rfl rfl ?_
    refine hs_iconst (v := 3) C dX7_note_50 (by decide) ?_
    refine hs_ast (kd := 14) C (Or.inr rfl) rfl (show hs_K 111 = 14 by decide +kernel) h dX7_note_51 (fun S_1 h => ?_)
    refine hs_sub [0, 1, 2] rfl ?_
    exact t_X7_note_52 C hf  x1 x2 S_1 h
  · skip
    refine hs_aload_n C dX7_note_17 0 rfl rfl ?_
    refine gf_X7_44 C dX7_note_18 ?_
    refine hs_iconst (v := 4) C dX7_note_21 (by decide) ?_
    refine hs_iload_n C dX7_note_22 1 rfl rfl ?_
    refine hs_imul C dX7_note_23 ?_
    refine hs_iload_n C dX7_note_24 3 rfl rfl ?_
    refine hs_iadd C dX7_note_25 ?_
    refine hs_aload_n C dX7_note_26 0 rfl rfl ?_
    refine gf_X7_44 C dX7_note_27 ?_
    refine hs_iconst (v := 4) C dX7_note_30 (by decide) ?_
    refine hs_iload_n C dX7_note_31 1 rfl rfl ?_
    refine hs_imul C dX7_note_32 ?_
    refine hs_iload_n C dX7_note_33 3 rfl rfl ?_
    refine hs_iadd C dX7_note_34 ?_
    refine hs_iconst (v := 1) C dX7_note_35 (by decide) ?_
    refine hs_iadd C dX7_note_36 ?_
    refine hs_top h (fun x_2 h => ?_)
    refine hs_ald (kd := 14) C (Or.inr rfl) rfl (show hs_K 112 = 14 by decide +kernel) h dX7_note_37 (fun h => ?_)
    refine hs_ast (kd := 14) C (Or.inr rfl) rfl (show hs_K 112 = 14 by decide +kernel) h dX7_note_38 (fun S_3 h => ?_)
    refine hs_iinc' (1 : Int32) C dX7_note_39 3 rfl (by decide) (by decide) h (fun x_4 h => ?_)
    show hs_Z X _ _ [(3, .int x_4), (0, .ref (hs_q X 100)), (1, .int x1), (2, .int x2)] _ _
    refine hs_goto (tgt := 12) C dX7_note_42 (by decide) ?_
    refine hs_sub [1, 2, 3, 0] rfl ?_
    exact hK12 x1 x2 x_4 S_3 h
theorem t_X7_note_12l {X : hs_T} (C : hs_C X 1 RX7 cX7_note 4 0) {res : hs_M} (hf : hs_FV X cX7_note res)  : ∀ (n : Nat) (x1 : Int32) (x2 : Int32) (x3 : Int32) (S : hs_M), f_X7_note_12  n x1 x2 x3 S = some res → hs_Z X 4 S [(0, .ref (hs_q X 100)), (1, .int x1), (2, .int x2), (3, .int x3)] [] 12 := by
  intro n
  induction n with
  | zero =>
    intro x1 x2 x3 S h
    cases h
  | succ n ih =>
    intro x1 x2 x3 S h
    exact t_X7_note_12 C hf  (f_X7_note_12  n) ih x1 x2 x3 S h
set_option maxRecDepth 100000 in
set_option maxHeartbeats 4000000 in
theorem t_X7_note_0 {X : hs_T} (C : hs_C X 1 RX7 cX7_note 4 0) {res : hs_M} (hf : hs_FV X cX7_note res) (x1 : Int32) (x2 : Int32) (S : hs_M) (h : f_X7_note_0 x1 x2 S = some res) : hs_Z X 4 S [(0, .ref (hs_q X 100)), (1, .int x1), (2, .int x2)] [] 0 := by
  unfold f_X7_note_0 at h
  refine hs_aload_n C dX7_note_0 0 rfl rfl ?_
  refine gf_X7_41 C dX7_note_1 ?_
  refine hs_iload_n C dX7_note_4 1 rfl rfl ?_
  refine hs_ald (kd := 14) C (Or.inr rfl) rfl (show hs_K 111 = 14 by decide +kernel) h dX7_note_5 (fun h => ?_)
  refine hs_iconst (v := 4) C dX7_note_6 (by decide) ?_
  refine hs_icmp_ne (tgt := 52) C dX7_note_7 (by decide) h (fun h => ?_) (fun h => ?_)
  · skip
    exact t_X7_note_52 C hf  x1 x2 S h
  · skip
    refine hs_iconst (v := 0) C dX7_note_10 (by decide) ?_
    refine hs_istore_n (lv' := [(3, .int (0 : Int32)), (0, .ref (hs_q X 100)), (1, .int x1), (2, .int x2)]) C dX7_note_11 rfl (by decide) rfl ?_
    refine hs_sub [1, 2, 3, 0] rfl ?_
    exact t_X7_note_12l C hf  hs_fuel x1 x2 (0 : Int32) S h
theorem m_X7_note (a1 : Int32) (a2 : Int32) (S : hs_M) {S' : hs_M} (h : f_X7_note a1 a2 S = some S') : hs_met 1 yX7_note cX7_note 4 none 0 (fun q => [.ref (q 100), .int a1, .int a2]) S (fun q => none) S' :=
  hs_mkV (res := S') (by decide +kernel) (by decide) (fun q => Nat.le_of_ble_eq_true rfl) fun X C hf => (t_X7_note_0 C hf a1 a2 S h)
set_option maxRecDepth 100000 in
set_option maxHeartbeats 4000000 in
theorem t_X7_put_0 {X : hs_T} (C : hs_C X 1 RX7 cX7_put 2 0) {res : hs_M} (hf : hs_FV X cX7_put res) (x1 : Int32) (S : hs_M) (h : f_X7_put_0 x1 S = some res) : hs_Z X 2 S [(0, .ref (hs_q X 100)), (1, .int x1)] [] 0 := by
  unfold f_X7_put_0 at h
  refine hs_aload_n C dX7_put_0 0 rfl rfl ?_
  refine gf_X7_89 C dX7_put_1 ?_
  refine hs_aload_n C dX7_put_4 0 rfl rfl ?_
  refine gf_X7_121 C dX7_put_5 ?_
  refine hs_iload_n C dX7_put_8 1 rfl rfl ?_
  refine hs_ast (kd := 14) C (Or.inr rfl) rfl (show hs_K 127 = 14 by decide +kernel) h dX7_put_9 (fun S_1 h => ?_)
  refine hs_aload_n C dX7_put_10 0 rfl rfl ?_
  refine hs_dup C dX7_put_11 rfl ?_
  refine gf_X7_121 C dX7_put_12 ?_
  refine hs_iconst (v := 1) C dX7_put_15 (by decide) ?_
  refine hs_iadd C dX7_put_16 ?_
  refine pf_X7_121 C h dX7_put_17 (fun S_2 h => ?_)
  exact hs_vret C hf h dX7_put_20
theorem m_X7_put (a1 : Int32) (S : hs_M) {S' : hs_M} (h : f_X7_put a1 S = some S') : hs_met 1 yX7_put cX7_put 2 none 0 (fun q => [.ref (q 100), .int a1]) S (fun q => none) S' :=
  hs_mkV (res := S') (by decide +kernel) (by decide) (fun q => Nat.le_of_ble_eq_true rfl) fun X C hf => (t_X7_put_0 C hf a1 S h)
set_option maxRecDepth 100000 in
set_option maxHeartbeats 4000000 in
theorem t_X7_putRest_16 {X : hs_T} (C : hs_C X 1 RX7 cX7_putRest 3 1) {res : hs_M} (hf : hs_FV X cX7_putRest res) (K16 : Int32 → Int32 → hs_M → Option hs_M) (hK16 : ∀ (x1 : Int32) (x2 : Int32) (S : hs_M), K16 x1 x2 S = some res → hs_Z X 3 S [(0, .ref (hs_q X 100)), (1, .int x1), (2, .int x2)] [] 16) (x1 : Int32) (x2 : Int32) (S : hs_M) (h : fb_X7_putRest_16 K16 x1 x2 S = some res) : hs_Z X 3 S [(0, .ref (hs_q X 100)), (1, .int x1), (2, .int x2)] [] 16 := by
  unfold fb_X7_putRest_16 at h
  refine hs_iload_n C dX7_putRest_16 2 rfl rfl ?_
  refine hs_bipush (v := 11) C dX7_putRest_17 (by decide) ?_
  refine hs_icmp_ge (tgt := 38) C dX7_putRest_19 (by decide) h (fun h => ?_) (fun h => ?_)
  · skip
    refine hs_aload_n C dX7_putRest_38 0 rfl rfl ?_
    refine hs_aload_n C dX7_putRest_39 0 rfl rfl ?_
    refine hs_bipush (v := 8) C dX7_putRest_40 (by decide) ?_
    refine hs_iload_n C dX7_putRest_42 1 rfl rfl ?_
    obtain ⟨r_3, S_1, hc_2, h⟩ := hs_b2_s h
    refine cs_X7_128 C (m_X7_sum (8 : Int32) x1 S hc_2) (by decide) (Nat.le_of_ble_eq_true rfl) dX7_putRest_43 ?_
    obtain ⟨S_4, hc_5, h⟩ := hs_b1_s h
    refine cs_X7_124 C (m_X7_put r_3 S_1 hc_5) (by decide) (Nat.le_of_ble_eq_true rfl) dX7_putRest_46 ?_
    exact hs_vret C hf h dX7_putRest_49
  · skip
    refine hs_aload_n C dX7_putRest_22 0 rfl rfl ?_
    refine hs_aload_n C dX7_putRest_23 0 rfl rfl ?_
    refine gf_X7_86 C dX7_putRest_24 ?_
    refine hs_iload_n C dX7_putRest_27 2 rfl rfl ?_
    refine hs_ald (kd := 14) C (Or.inr rfl) rfl (show hs_K 126 = 14 by decide +kernel) h dX7_putRest_28 (fun h => ?_)
    obtain ⟨S_6, hc_7, h⟩ := hs_b1_s h
    refine cs_X7_124 C (m_X7_put (S 126 x2.toNatClampNeg) S hc_7) (by decide) (Nat.le_of_ble_eq_true rfl) dX7_putRest_29 ?_
    refine hs_iinc' (1 : Int32) C dX7_putRest_32 2 rfl (by decide) (by decide) h (fun x_8 h => ?_)
    show hs_Z X _ _ [(2, .int x_8), (0, .ref (hs_q X 100)), (1, .int x1)] _ _
    refine hs_goto (tgt := 16) C dX7_putRest_35 (by decide) ?_
    refine hs_sub [1, 2, 0] rfl ?_
    exact hK16 x1 x_8 S_6 h
theorem t_X7_putRest_16l {X : hs_T} (C : hs_C X 1 RX7 cX7_putRest 3 1) {res : hs_M} (hf : hs_FV X cX7_putRest res)  : ∀ (n : Nat) (x1 : Int32) (x2 : Int32) (S : hs_M), f_X7_putRest_16  n x1 x2 S = some res → hs_Z X 3 S [(0, .ref (hs_q X 100)), (1, .int x1), (2, .int x2)] [] 16 := by
  intro n
  induction n with
  | zero =>
    intro x1 x2 S h
    cases h
  | succ n ih =>
    intro x1 x2 S h
    exact t_X7_putRest_16 C hf  (f_X7_putRest_16  n) ih x1 x2 S h
set_option maxRecDepth 100000 in
set_option maxHeartbeats 4000000 in
theorem t_X7_putRest_0 {X : hs_T} (C : hs_C X 1 RX7 cX7_putRest 3 1) {res : hs_M} (hf : hs_FV X cX7_putRest res) (x1 : Int32) (S : hs_M) (h : f_X7_putRest_0 x1 S = some res) : hs_Z X 3 S [(0, .ref (hs_q X 100)), (1, .int x1)] [] 0 := by
  unfold f_X7_putRest_0 at h
  refine hs_aload_n C dX7_putRest_0 0 rfl rfl ?_
  refine hs_aload_n C dX7_putRest_1 0 rfl rfl ?_
  refine gf_X7_86 C dX7_putRest_2 ?_
  refine hs_iconst (v := 2) C dX7_putRest_5 (by decide) ?_
  refine hs_ald (kd := 14) C (Or.inr rfl) rfl (show hs_K 126 = 14 by decide +kernel) h dX7_putRest_6 (fun h => ?_)
  refine hs_sipush (v := 128) C dX7_putRest_7 (by decide) ?_
  refine hs_iand C dX7_putRest_10 ?_
  obtain ⟨S_1, hc_2, h⟩ := hs_b1_s h
  refine cs_X7_124 C (m_X7_put ((S 126 (2 : Int32).toNatClampNeg) &&& (128 : Int32)) S hc_2) (by decide) (Nat.le_of_ble_eq_true rfl) dX7_putRest_11 ?_
  refine hs_iconst (v := 3) C dX7_putRest_14 (by decide) ?_
  refine hs_istore_n (lv' := [(2, .int (3 : Int32)), (0, .ref (hs_q X 100)), (1, .int x1)]) C dX7_putRest_15 rfl (by decide) rfl ?_
  refine hs_sub [1, 2, 0] rfl ?_
  exact t_X7_putRest_16l C hf  hs_fuel x1 (3 : Int32) S_1 h
theorem m_X7_putRest (a1 : Int32) (S : hs_M) {S' : hs_M} (h : f_X7_putRest a1 S = some S') : hs_met 1 yX7_putRest cX7_putRest 3 none 1 (fun q => [.ref (q 100), .int a1]) S (fun q => none) S' :=
  hs_mkV (res := S') (by decide +kernel) (by decide) (fun q => Nat.le_of_ble_eq_true rfl) fun X C hf => (t_X7_putRest_0 C hf a1 S h)
set_option maxRecDepth 100000 in
set_option maxHeartbeats 4000000 in
theorem t_X7_receiver_86 {X : hs_T} (C : hs_C X 1 RX7 cX7_receiver 3 1) {res : Int32 × hs_M} (hf : hs_FI X cX7_receiver res) (y0 : Int32) (S : hs_M) (h : f_X7_receiver_86 y0 S = some res) : hs_Z X 3 S [] [.int y0] 86 := by
  unfold f_X7_receiver_86 at h
  exact hs_ireti C hf h dX7_receiver_86
set_option maxRecDepth 100000 in
set_option maxHeartbeats 4000000 in
theorem t_X7_receiver_27 {X : hs_T} (C : hs_C X 1 RX7 cX7_receiver 3 1) {res : Int32 × hs_M} (hf : hs_FI X cX7_receiver res) (x1 : Int32) (x2 : Int32) (y1 : Int32) (S : hs_M) (h : f_X7_receiver_27 x1 x2 y1 S = some res) : hs_Z X 3 S [(0, .ref (hs_q X 100)), (1, .int x1), (2, .int x2)] [.int y1, .ref (hs_q X 100)] 27 := by
  unfold f_X7_receiver_27 at h
  refine pf_X7_92 C h dX7_receiver_27 (fun S_1 h => ?_)
  refine hs_aload_n C dX7_receiver_30 0 rfl rfl ?_
  refine gf_X7_92 C dX7_receiver_31 ?_
  refine hs_if_eq (tgt := 39) C dX7_receiver_34 (by decide) h (fun h => ?_) (fun h => ?_)
  · skip
    refine hs_iload_n C dX7_receiver_39 2 rfl rfl ?_
    refine hs_if_ne (tgt := 52) C dX7_receiver_40 (by decide) h (fun h => ?_) (fun h => ?_)
    · skip
      refine hs_iload_n C dX7_receiver_52 2 rfl rfl ?_
      refine hs_iconst (v := 1) C dX7_receiver_53 (by decide) ?_
      refine hs_icmp_ne (tgt := 66) C dX7_receiver_54 (by decide) h (fun h => ?_) (fun h => ?_)
      · skip
        refine hs_iload_n C dX7_receiver_66 2 rfl rfl ?_
        refine hs_iconst (v := 2) C dX7_receiver_67 (by decide) ?_
        refine hs_icmp_ne (tgt := 80) C dX7_receiver_68 (by decide) h (fun h => ?_) (fun h => ?_)
        · skip
          refine hs_aload_n C dX7_receiver_80 0 rfl rfl ?_
          refine gf_X7_77 C dX7_receiver_81 ?_
          refine hs_iload_n C dX7_receiver_84 1 rfl rfl ?_
          refine hs_ald (kd := 14) C (Or.inr rfl) rfl (show hs_K 123 = 14 by decide +kernel) h dX7_receiver_85 (fun h => ?_)
          refine hs_sub [] rfl ?_
          exact t_X7_receiver_86 C hf  (S_1 123 x1.toNatClampNeg) S_1 h
        · skip
          refine hs_aload_n C dX7_receiver_71 0 rfl rfl ?_
          refine gf_X7_74 C dX7_receiver_72 ?_
          refine hs_iload_n C dX7_receiver_75 1 rfl rfl ?_
          refine hs_ald (kd := 14) C (Or.inr rfl) rfl (show hs_K 122 = 14 by decide +kernel) h dX7_receiver_76 (fun h => ?_)
          refine hs_goto (tgt := 86) C dX7_receiver_77 (by decide) ?_
          refine hs_sub [] rfl ?_
          exact t_X7_receiver_86 C hf  (S_1 122 x1.toNatClampNeg) S_1 h
      · skip
        refine hs_aload_n C dX7_receiver_57 0 rfl rfl ?_
        refine gf_X7_71 C dX7_receiver_58 ?_
        refine hs_iload_n C dX7_receiver_61 1 rfl rfl ?_
        refine hs_ald (kd := 14) C (Or.inr rfl) rfl (show hs_K 121 = 14 by decide +kernel) h dX7_receiver_62 (fun h => ?_)
        refine hs_goto (tgt := 86) C dX7_receiver_63 (by decide) ?_
        refine hs_sub [] rfl ?_
        exact t_X7_receiver_86 C hf  (S_1 121 x1.toNatClampNeg) S_1 h
    · skip
      refine hs_aload_n C dX7_receiver_43 0 rfl rfl ?_
      refine gf_X7_53 C dX7_receiver_44 ?_
      refine hs_iload_n C dX7_receiver_47 1 rfl rfl ?_
      refine hs_ald (kd := 14) C (Or.inr rfl) rfl (show hs_K 115 = 14 by decide +kernel) h dX7_receiver_48 (fun h => ?_)
      refine hs_goto (tgt := 86) C dX7_receiver_49 (by decide) ?_
      refine hs_sub [] rfl ?_
      exact t_X7_receiver_86 C hf  (S_1 115 x1.toNatClampNeg) S_1 h
  · skip
    refine hs_iconst (v := 0) C dX7_receiver_37 (by decide) ?_
    exact hs_ireti C hf h dX7_receiver_38
set_option maxRecDepth 100000 in
set_option maxHeartbeats 4000000 in
theorem t_X7_receiver_22 {X : hs_T} (C : hs_C X 1 RX7 cX7_receiver 3 1) {res : Int32 × hs_M} (hf : hs_FI X cX7_receiver res) (x1 : Int32) (x2 : Int32) (S : hs_M) (h : f_X7_receiver_22 x1 x2 S = some res) : hs_Z X 3 S [(0, .ref (hs_q X 100)), (1, .int x1), (2, .int x2)] [.ref (hs_q X 100)] 22 := by
  unfold f_X7_receiver_22 at h
  refine hs_iconst (v := 2) C dX7_receiver_22 (by decide) ?_
  refine hs_goto (tgt := 27) C dX7_receiver_23 (by decide) ?_
  exact t_X7_receiver_27 C hf  x1 x2 (2 : Int32) S h
set_option maxRecDepth 100000 in
set_option maxHeartbeats 4000000 in
theorem t_X7_receiver_0 {X : hs_T} (C : hs_C X 1 RX7 cX7_receiver 3 1) {res : Int32 × hs_M} (hf : hs_FI X cX7_receiver res) (x1 : Int32) (x2 : Int32) (S : hs_M) (h : f_X7_receiver_0 x1 x2 S = some res) : hs_Z X 3 S [(0, .ref (hs_q X 100)), (1, .int x1), (2, .int x2)] [] 0 := by
  unfold f_X7_receiver_0 at h
  refine hs_aload_n C dX7_receiver_0 0 rfl rfl ?_
  refine hs_aload_n C dX7_receiver_1 0 rfl rfl ?_
  refine hs_iload_n C dX7_receiver_2 1 rfl rfl ?_
  obtain ⟨r_3, S_1, hc_2, h⟩ := hs_b2_s h
  refine cs_X7_97 C (m_X7_noFlow x1 S hc_2) (by decide) (Nat.le_of_ble_eq_true rfl) dX7_receiver_3 ?_
  refine hs_if_eq (tgt := 13) C dX7_receiver_6 (by decide) h (fun h => ?_) (fun h => ?_)
  · skip
    refine hs_iload_n C dX7_receiver_13 2 rfl rfl ?_
    refine hs_if_lt (tgt := 22) C dX7_receiver_14 (by decide) h (fun h => ?_) (fun h => ?_)
    · skip
      exact t_X7_receiver_22 C hf  x1 x2 S_1 h
    · skip
      refine hs_iload_n C dX7_receiver_17 2 rfl rfl ?_
      refine hs_iconst (v := 3) C dX7_receiver_18 (by decide) ?_
      refine hs_icmp_le (tgt := 26) C dX7_receiver_19 (by decide) h (fun h => ?_) (fun h => ?_)
      · skip
        refine hs_iconst (v := 0) C dX7_receiver_26 (by decide) ?_
        exact t_X7_receiver_27 C hf  x1 x2 (0 : Int32) S_1 h
      · skip
        exact t_X7_receiver_22 C hf  x1 x2 S_1 h
  · skip
    refine hs_iconst (v := 1) C dX7_receiver_9 (by decide) ?_
    refine hs_goto (tgt := 27) C dX7_receiver_10 (by decide) ?_
    exact t_X7_receiver_27 C hf  x1 x2 (1 : Int32) S_1 h
theorem m_X7_receiver (a1 : Int32) (a2 : Int32) (S : hs_M) {r : Int32} {S' : hs_M} (h : f_X7_receiver a1 a2 S = some (r, S')) : hs_met 1 yX7_receiver cX7_receiver 3 (some .int) 1 (fun q => [.ref (q 100), .int a1, .int a2]) S (fun q => some (.int r)) S' :=
  hs_mkI (res := (r, S')) (by decide +kernel) (by decide) (fun q => Nat.le_of_ble_eq_true rfl) fun X C hf => (t_X7_receiver_0 C hf a1 a2 S h)
set_option maxRecDepth 100000 in
set_option maxHeartbeats 4000000 in
theorem t_X7_sender_100 {X : hs_T} (C : hs_C X 1 RX7 cX7_sender 3 1) {res : Int32 × hs_M} (hf : hs_FI X cX7_sender res) (y0 : Int32) (S : hs_M) (h : f_X7_sender_100 y0 S = some res) : hs_Z X 3 S [] [.int y0] 100 := by
  unfold f_X7_sender_100 at h
  exact hs_ireti C hf h dX7_sender_100
set_option maxRecDepth 100000 in
set_option maxHeartbeats 4000000 in
theorem t_X7_sender_27 {X : hs_T} (C : hs_C X 1 RX7 cX7_sender 3 1) {res : Int32 × hs_M} (hf : hs_FI X cX7_sender res) (x1 : Int32) (x2 : Int32) (y1 : Int32) (S : hs_M) (h : f_X7_sender_27 x1 x2 y1 S = some res) : hs_Z X 3 S [(0, .ref (hs_q X 100)), (1, .int x1), (2, .int x2)] [.int y1, .ref (hs_q X 100)] 27 := by
  unfold f_X7_sender_27 at h
  refine pf_X7_92 C h dX7_sender_27 (fun S_1 h => ?_)
  refine hs_aload_n C dX7_sender_30 0 rfl rfl ?_
  refine gf_X7_92 C dX7_sender_31 ?_
  refine hs_if_eq (tgt := 39) C dX7_sender_34 (by decide) h (fun h => ?_) (fun h => ?_)
  · skip
    refine hs_iload_n C dX7_sender_39 2 rfl rfl ?_
    refine hs_if_ne (tgt := 52) C dX7_sender_40 (by decide) h (fun h => ?_) (fun h => ?_)
    · skip
      refine hs_iload_n C dX7_sender_52 2 rfl rfl ?_
      refine hs_iconst (v := 1) C dX7_sender_53 (by decide) ?_
      refine hs_icmp_ne (tgt := 66) C dX7_sender_54 (by decide) h (fun h => ?_) (fun h => ?_)
      · skip
        refine hs_iload_n C dX7_sender_66 2 rfl rfl ?_
        refine hs_iconst (v := 2) C dX7_sender_67 (by decide) ?_
        refine hs_icmp_ne (tgt := 80) C dX7_sender_68 (by decide) h (fun h => ?_) (fun h => ?_)
        · skip
          refine hs_iload_n C dX7_sender_80 2 rfl rfl ?_
          refine hs_iconst (v := 3) C dX7_sender_81 (by decide) ?_
          refine hs_icmp_ne (tgt := 94) C dX7_sender_82 (by decide) h (fun h => ?_) (fun h => ?_)
          · skip
            refine hs_aload_n C dX7_sender_94 0 rfl rfl ?_
            refine gf_X7_29 C dX7_sender_95 ?_
            refine hs_iload_n C dX7_sender_98 1 rfl rfl ?_
            refine hs_ald (kd := 14) C (Or.inr rfl) rfl (show hs_K 107 = 14 by decide +kernel) h dX7_sender_99 (fun h => ?_)
            refine hs_sub [] rfl ?_
            exact t_X7_sender_100 C hf  (S_1 107 x1.toNatClampNeg) S_1 h
          · skip
            refine hs_aload_n C dX7_sender_85 0 rfl rfl ?_
            refine gf_X7_26 C dX7_sender_86 ?_
            refine hs_iload_n C dX7_sender_89 1 rfl rfl ?_
            refine hs_ald (kd := 14) C (Or.inr rfl) rfl (show hs_K 106 = 14 by decide +kernel) h dX7_sender_90 (fun h => ?_)
            refine hs_goto (tgt := 100) C dX7_sender_91 (by decide) ?_
            refine hs_sub [] rfl ?_
            exact t_X7_sender_100 C hf  (S_1 106 x1.toNatClampNeg) S_1 h
        · skip
          refine hs_aload_n C dX7_sender_71 0 rfl rfl ?_
          refine gf_X7_38 C dX7_sender_72 ?_
          refine hs_iload_n C dX7_sender_75 1 rfl rfl ?_
          refine hs_ald (kd := 14) C (Or.inr rfl) rfl (show hs_K 110 = 14 by decide +kernel) h dX7_sender_76 (fun h => ?_)
          refine hs_goto (tgt := 100) C dX7_sender_77 (by decide) ?_
          refine hs_sub [] rfl ?_
          exact t_X7_sender_100 C hf  (S_1 110 x1.toNatClampNeg) S_1 h
      · skip
        refine hs_aload_n C dX7_sender_57 0 rfl rfl ?_
        refine gf_X7_35 C dX7_sender_58 ?_
        refine hs_iload_n C dX7_sender_61 1 rfl rfl ?_
        refine hs_ald (kd := 14) C (Or.inr rfl) rfl (show hs_K 109 = 14 by decide +kernel) h dX7_sender_62 (fun h => ?_)
        refine hs_goto (tgt := 100) C dX7_sender_63 (by decide) ?_
        refine hs_sub [] rfl ?_
        exact t_X7_sender_100 C hf  (S_1 109 x1.toNatClampNeg) S_1 h
    · skip
      refine hs_aload_n C dX7_sender_43 0 rfl rfl ?_
      refine gf_X7_32 C dX7_sender_44 ?_
      refine hs_iload_n C dX7_sender_47 1 rfl rfl ?_
      refine hs_ald (kd := 14) C (Or.inr rfl) rfl (show hs_K 108 = 14 by decide +kernel) h dX7_sender_48 (fun h => ?_)
      refine hs_goto (tgt := 100) C dX7_sender_49 (by decide) ?_
      refine hs_sub [] rfl ?_
      exact t_X7_sender_100 C hf  (S_1 108 x1.toNatClampNeg) S_1 h
  · skip
    refine hs_iconst (v := 0) C dX7_sender_37 (by decide) ?_
    exact hs_ireti C hf h dX7_sender_38
set_option maxRecDepth 100000 in
set_option maxHeartbeats 4000000 in
theorem t_X7_sender_22 {X : hs_T} (C : hs_C X 1 RX7 cX7_sender 3 1) {res : Int32 × hs_M} (hf : hs_FI X cX7_sender res) (x1 : Int32) (x2 : Int32) (S : hs_M) (h : f_X7_sender_22 x1 x2 S = some res) : hs_Z X 3 S [(0, .ref (hs_q X 100)), (1, .int x1), (2, .int x2)] [.ref (hs_q X 100)] 22 := by
  unfold f_X7_sender_22 at h
  refine hs_iconst (v := 2) C dX7_sender_22 (by decide) ?_
  refine hs_goto (tgt := 27) C dX7_sender_23 (by decide) ?_
  exact t_X7_sender_27 C hf  x1 x2 (2 : Int32) S h
set_option maxRecDepth 100000 in
set_option maxHeartbeats 4000000 in
theorem t_X7_sender_0 {X : hs_T} (C : hs_C X 1 RX7 cX7_sender 3 1) {res : Int32 × hs_M} (hf : hs_FI X cX7_sender res) (x1 : Int32) (x2 : Int32) (S : hs_M) (h : f_X7_sender_0 x1 x2 S = some res) : hs_Z X 3 S [(0, .ref (hs_q X 100)), (1, .int x1), (2, .int x2)] [] 0 := by
  unfold f_X7_sender_0 at h
  refine hs_aload_n C dX7_sender_0 0 rfl rfl ?_
  refine hs_aload_n C dX7_sender_1 0 rfl rfl ?_
  refine hs_iload_n C dX7_sender_2 1 rfl rfl ?_
  obtain ⟨r_3, S_1, hc_2, h⟩ := hs_b2_s h
  refine cs_X7_97 C (m_X7_noFlow x1 S hc_2) (by decide) (Nat.le_of_ble_eq_true rfl) dX7_sender_3 ?_
  refine hs_if_eq (tgt := 13) C dX7_sender_6 (by decide) h (fun h => ?_) (fun h => ?_)
  · skip
    refine hs_iload_n C dX7_sender_13 2 rfl rfl ?_
    refine hs_if_lt (tgt := 22) C dX7_sender_14 (by decide) h (fun h => ?_) (fun h => ?_)
    · skip
      exact t_X7_sender_22 C hf  x1 x2 S_1 h
    · skip
      refine hs_iload_n C dX7_sender_17 2 rfl rfl ?_
      refine hs_iconst (v := 4) C dX7_sender_18 (by decide) ?_
      refine hs_icmp_le (tgt := 26) C dX7_sender_19 (by decide) h (fun h => ?_) (fun h => ?_)
      · skip
        refine hs_iconst (v := 0) C dX7_sender_26 (by decide) ?_
        exact t_X7_sender_27 C hf  x1 x2 (0 : Int32) S_1 h
      · skip
        exact t_X7_sender_22 C hf  x1 x2 S_1 h
  · skip
    refine hs_iconst (v := 1) C dX7_sender_9 (by decide) ?_
    refine hs_goto (tgt := 27) C dX7_sender_10 (by decide) ?_
    exact t_X7_sender_27 C hf  x1 x2 (1 : Int32) S_1 h
theorem m_X7_sender (a1 : Int32) (a2 : Int32) (S : hs_M) {r : Int32} {S' : hs_M} (h : f_X7_sender a1 a2 S = some (r, S')) : hs_met 1 yX7_sender cX7_sender 3 (some .int) 1 (fun q => [.ref (q 100), .int a1, .int a2]) S (fun q => some (.int r)) S' :=
  hs_mkI (res := (r, S')) (by decide +kernel) (by decide) (fun q => Nat.le_of_ble_eq_true rfl) fun X C hf => (t_X7_sender_0 C hf a1 a2 S h)
set_option maxRecDepth 100000 in
set_option maxHeartbeats 4000000 in
theorem t_X7_size_34 {X : hs_T} (C : hs_C X 1 RX7 cX7_size 2 1) {res : Int32 × hs_M} (hf : hs_FI X cX7_size res) (y0 : Int32) (S : hs_M) (h : f_X7_size_34 y0 S = some res) : hs_Z X 2 S [] [.int y0] 34 := by
  unfold f_X7_size_34 at h
  exact hs_ireti C hf h dX7_size_34
set_option maxRecDepth 100000 in
set_option maxHeartbeats 4000000 in
theorem t_X7_size_14 {X : hs_T} (C : hs_C X 1 RX7 cX7_size 2 1) {res : Int32 × hs_M} (hf : hs_FI X cX7_size res) (x1 : Int32) (y1 : Int32) (S : hs_M) (h : f_X7_size_14 x1 y1 S = some res) : hs_Z X 2 S [(0, .ref (hs_q X 100)), (1, .int x1)] [.int y1, .ref (hs_q X 100)] 14 := by
  unfold f_X7_size_14 at h
  refine pf_X7_92 C h dX7_size_14 (fun S_1 h => ?_)
  refine hs_aload_n C dX7_size_17 0 rfl rfl ?_
  refine gf_X7_92 C dX7_size_18 ?_
  refine hs_if_ne (tgt := 33) C dX7_size_21 (by decide) h (fun h => ?_) (fun h => ?_)
  · skip
    refine hs_iconst (v := 0) C dX7_size_33 (by decide) ?_
    refine hs_sub [] rfl ?_
    exact t_X7_size_34 C hf  (0 : Int32) S_1 h
  · skip
    refine hs_aload_n C dX7_size_24 0 rfl rfl ?_
    refine gf_X7_47 C dX7_size_25 ?_
    refine hs_iload_n C dX7_size_28 1 rfl rfl ?_
    refine hs_ald (kd := 14) C (Or.inr rfl) rfl (show hs_K 113 = 14 by decide +kernel) h dX7_size_29 (fun h => ?_)
    refine hs_goto (tgt := 34) C dX7_size_30 (by decide) ?_
    refine hs_sub [] rfl ?_
    exact t_X7_size_34 C hf  (S_1 113 x1.toNatClampNeg) S_1 h
set_option maxRecDepth 100000 in
set_option maxHeartbeats 4000000 in
theorem t_X7_size_0 {X : hs_T} (C : hs_C X 1 RX7 cX7_size 2 1) {res : Int32 × hs_M} (hf : hs_FI X cX7_size res) (x1 : Int32) (S : hs_M) (h : f_X7_size_0 x1 S = some res) : hs_Z X 2 S [(0, .ref (hs_q X 100)), (1, .int x1)] [] 0 := by
  unfold f_X7_size_0 at h
  refine hs_aload_n C dX7_size_0 0 rfl rfl ?_
  refine hs_aload_n C dX7_size_1 0 rfl rfl ?_
  refine hs_iload_n C dX7_size_2 1 rfl rfl ?_
  obtain ⟨r_3, S_1, hc_2, h⟩ := hs_b2_s h
  refine cs_X7_157 C (m_X7_noPacket x1 S hc_2) (by decide) (Nat.le_of_ble_eq_true rfl) dX7_size_3 ?_
  refine hs_if_eq (tgt := 13) C dX7_size_6 (by decide) h (fun h => ?_) (fun h => ?_)
  · skip
    refine hs_iconst (v := 0) C dX7_size_13 (by decide) ?_
    exact t_X7_size_14 C hf  x1 (0 : Int32) S_1 h
  · skip
    refine hs_iconst (v := 1) C dX7_size_9 (by decide) ?_
    refine hs_goto (tgt := 14) C dX7_size_10 (by decide) ?_
    exact t_X7_size_14 C hf  x1 (1 : Int32) S_1 h
theorem m_X7_size (a1 : Int32) (S : hs_M) {r : Int32} {S' : hs_M} (h : f_X7_size a1 S = some (r, S')) : hs_met 1 yX7_size cX7_size 2 (some .int) 1 (fun q => [.ref (q 100), .int a1]) S (fun q => some (.int r)) S' :=
  hs_mkI (res := (r, S')) (by decide +kernel) (by decide) (fun q => Nat.le_of_ble_eq_true rfl) fun X C hf => (t_X7_size_0 C hf a1 S h)
set_option maxRecDepth 100000 in
set_option maxHeartbeats 4000000 in
theorem t_X7_spoil_64 {X : hs_T} (C : hs_C X 1 RX7 cX7_spoil 4 2) {res : hs_M} (hf : hs_FV X cX7_spoil res) (S : hs_M) (h : f_X7_spoil_64  S = some res) : hs_Z X 4 S [] [] 64 := by
  unfold f_X7_spoil_64 at h
  exact hs_vret C hf h dX7_spoil_64
set_option maxRecDepth 100000 in
set_option maxHeartbeats 4000000 in
theorem t_X7_spoil_30 {X : hs_T} (C : hs_C X 1 RX7 cX7_spoil 4 2) {res : hs_M} (hf : hs_FV X cX7_spoil res) (x1 : Int32) (x2 : Int32) (x3 : Int32) (y1 : Int32) (S : hs_M) (h : f_X7_spoil_30 x1 x2 x3 y1 S = some res) : hs_Z X 4 S [(0, .ref (hs_q X 100)), (1, .int x1), (2, .int x2), (3, .int x3)] [.int y1, .ref (hs_q X 100)] 30 := by
  unfold f_X7_spoil_30 at h
  refine pf_X7_92 C h dX7_spoil_30 (fun S_1 h => ?_)
  refine hs_aload_n C dX7_spoil_33 0 rfl rfl ?_
  refine gf_X7_92 C dX7_spoil_34 ?_
  refine hs_if_ne (tgt := 64) C dX7_spoil_37 (by decide) h (fun h => ?_) (fun h => ?_)
  · skip
    refine hs_sub [] rfl ?_
    exact t_X7_spoil_64 C hf   S_1 h
  · skip
    refine hs_aload_n C dX7_spoil_40 0 rfl rfl ?_
    refine gf_X7_50 C dX7_spoil_41 ?_
    refine hs_bipush (v := 20) C dX7_spoil_44 (by decide) ?_
    refine hs_iload_n C dX7_spoil_46 1 rfl rfl ?_
    refine hs_imul C dX7_spoil_47 ?_
    refine hs_iload_n C dX7_spoil_48 2 rfl rfl ?_
    refine hs_iadd C dX7_spoil_49 ?_
    refine hs_aload_n C dX7_spoil_50 0 rfl rfl ?_
    refine gf_X7_50 C dX7_spoil_51 ?_
    refine hs_bipush (v := 20) C dX7_spoil_54 (by decide) ?_
    refine hs_iload_n C dX7_spoil_56 1 rfl rfl ?_
    refine hs_imul C dX7_spoil_57 ?_
    refine hs_iload_n C dX7_spoil_58 2 rfl rfl ?_
    refine hs_iadd C dX7_spoil_59 ?_
    refine hs_top h (fun x_2 h => ?_)
    refine hs_ald (kd := 14) C (Or.inr rfl) rfl (show hs_K 114 = 14 by decide +kernel) h dX7_spoil_60 (fun h => ?_)
    refine hs_iload_n C dX7_spoil_61 3 rfl rfl ?_
    refine hs_ixor C dX7_spoil_62 ?_
    refine hs_ast (kd := 14) C (Or.inr rfl) rfl (show hs_K 114 = 14 by decide +kernel) h dX7_spoil_63 (fun S_3 h => ?_)
    refine hs_sub [] rfl ?_
    exact t_X7_spoil_64 C hf   S_3 h
set_option maxRecDepth 100000 in
set_option maxHeartbeats 4000000 in
theorem t_X7_spoil_25 {X : hs_T} (C : hs_C X 1 RX7 cX7_spoil 4 2) {res : hs_M} (hf : hs_FV X cX7_spoil res) (x1 : Int32) (x2 : Int32) (x3 : Int32) (S : hs_M) (h : f_X7_spoil_25 x1 x2 x3 S = some res) : hs_Z X 4 S [(0, .ref (hs_q X 100)), (1, .int x1), (2, .int x2), (3, .int x3)] [.ref (hs_q X 100)] 25 := by
  unfold f_X7_spoil_25 at h
  refine hs_iconst (v := 2) C dX7_spoil_25 (by decide) ?_
  refine hs_goto (tgt := 30) C dX7_spoil_26 (by decide) ?_
  exact t_X7_spoil_30 C hf  x1 x2 x3 (2 : Int32) S h
set_option maxRecDepth 100000 in
set_option maxHeartbeats 4000000 in
theorem t_X7_spoil_0 {X : hs_T} (C : hs_C X 1 RX7 cX7_spoil 4 2) {res : hs_M} (hf : hs_FV X cX7_spoil res) (x1 : Int32) (x2 : Int32) (x3 : Int32) (S : hs_M) (h : f_X7_spoil_0 x1 x2 x3 S = some res) : hs_Z X 4 S [(0, .ref (hs_q X 100)), (1, .int x1), (2, .int x2), (3, .int x3)] [] 0 := by
  unfold f_X7_spoil_0 at h
  refine hs_aload_n C dX7_spoil_0 0 rfl rfl ?_
  refine hs_aload_n C dX7_spoil_1 0 rfl rfl ?_
  refine hs_iload_n C dX7_spoil_2 1 rfl rfl ?_
  refine hs_iload_n C dX7_spoil_3 2 rfl rfl ?_
  obtain ⟨r_3, S_1, hc_2, h⟩ := hs_b2_s h
  refine cs_X7_160 C (m_X7_noByte x1 x2 S hc_2) (by decide) (Nat.le_of_ble_eq_true rfl) dX7_spoil_4 ?_
  refine hs_if_eq (tgt := 14) C dX7_spoil_7 (by decide) h (fun h => ?_) (fun h => ?_)
  · skip
    refine hs_iload_n C dX7_spoil_14 3 rfl rfl ?_
    refine hs_if_lt (tgt := 25) C dX7_spoil_15 (by decide) h (fun h => ?_) (fun h => ?_)
    · skip
      exact t_X7_spoil_25 C hf  x1 x2 x3 S_1 h
    · skip
      refine hs_iload_n C dX7_spoil_18 3 rfl rfl ?_
      refine hs_sipush (v := 255) C dX7_spoil_19 (by decide) ?_
      refine hs_icmp_le (tgt := 29) C dX7_spoil_22 (by decide) h (fun h => ?_) (fun h => ?_)
      · skip
        refine hs_iconst (v := 0) C dX7_spoil_29 (by decide) ?_
        exact t_X7_spoil_30 C hf  x1 x2 x3 (0 : Int32) S_1 h
      · skip
        exact t_X7_spoil_25 C hf  x1 x2 x3 S_1 h
  · skip
    refine hs_iconst (v := 1) C dX7_spoil_10 (by decide) ?_
    refine hs_goto (tgt := 30) C dX7_spoil_11 (by decide) ?_
    exact t_X7_spoil_30 C hf  x1 x2 x3 (1 : Int32) S_1 h
theorem m_X7_spoil (a1 : Int32) (a2 : Int32) (a3 : Int32) (S : hs_M) {S' : hs_M} (h : f_X7_spoil a1 a2 a3 S = some S') : hs_met 1 yX7_spoil cX7_spoil 4 none 2 (fun q => [.ref (q 100), .int a1, .int a2, .int a3]) S (fun q => none) S' :=
  hs_mkV (res := S') (by decide +kernel) (by decide) (fun q => Nat.le_of_ble_eq_true rfl) fun X C hf => (t_X7_spoil_0 C hf a1 a2 a3 S h)
set_option maxRecDepth 100000 in
set_option maxHeartbeats 4000000 in
theorem t_X7_stride_43 {X : hs_T} (C : hs_C X 1 RX7 cX7_stride 3 1) {res : hs_M} (hf : hs_FV X cX7_stride res) (S : hs_M) (h : f_X7_stride_43  S = some res) : hs_Z X 3 S [] [] 43 := by
  unfold f_X7_stride_43 at h
  exact hs_vret C hf h dX7_stride_43
set_option maxRecDepth 100000 in
set_option maxHeartbeats 4000000 in
theorem t_X7_stride_26 {X : hs_T} (C : hs_C X 1 RX7 cX7_stride 3 1) {res : hs_M} (hf : hs_FV X cX7_stride res) (x1 : Int32) (x2 : Int32) (y1 : Int32) (S : hs_M) (h : f_X7_stride_26 x1 x2 y1 S = some res) : hs_Z X 3 S [(0, .ref (hs_q X 100)), (1, .int x1), (2, .int x2)] [.int y1, .ref (hs_q X 100)] 26 := by
  unfold f_X7_stride_26 at h
  refine pf_X7_92 C h dX7_stride_26 (fun S_1 h => ?_)
  refine hs_aload_n C dX7_stride_29 0 rfl rfl ?_
  refine gf_X7_92 C dX7_stride_30 ?_
  refine hs_if_ne (tgt := 43) C dX7_stride_33 (by decide) h (fun h => ?_) (fun h => ?_)
  · skip
    refine hs_sub [] rfl ?_
    exact t_X7_stride_43 C hf   S_1 h
  · skip
    refine hs_aload_n C dX7_stride_36 0 rfl rfl ?_
    refine gf_X7_7 C dX7_stride_37 ?_
    refine hs_iload_n C dX7_stride_40 1 rfl rfl ?_
    refine hs_iload_n C dX7_stride_41 2 rfl rfl ?_
    refine hs_ast (kd := 14) C (Or.inr rfl) rfl (show hs_K 101 = 14 by decide +kernel) h dX7_stride_42 (fun S_2 h => ?_)
    refine hs_sub [] rfl ?_
    exact t_X7_stride_43 C hf   S_2 h
set_option maxRecDepth 100000 in
set_option maxHeartbeats 4000000 in
theorem t_X7_stride_0 {X : hs_T} (C : hs_C X 1 RX7 cX7_stride 3 1) {res : hs_M} (hf : hs_FV X cX7_stride res) (x1 : Int32) (x2 : Int32) (S : hs_M) (h : f_X7_stride_0 x1 x2 S = some res) : hs_Z X 3 S [(0, .ref (hs_q X 100)), (1, .int x1), (2, .int x2)] [] 0 := by
  unfold f_X7_stride_0 at h
  refine hs_aload_n C dX7_stride_0 0 rfl rfl ?_
  refine hs_aload_n C dX7_stride_1 0 rfl rfl ?_
  refine hs_iload_n C dX7_stride_2 1 rfl rfl ?_
  obtain ⟨r_3, S_1, hc_2, h⟩ := hs_b2_s h
  refine cs_X7_97 C (m_X7_noFlow x1 S hc_2) (by decide) (Nat.le_of_ble_eq_true rfl) dX7_stride_3 ?_
  refine hs_if_eq (tgt := 13) C dX7_stride_6 (by decide) h (fun h => ?_) (fun h => ?_)
  · skip
    refine hs_aload_n C dX7_stride_13 0 rfl rfl ?_
    refine hs_iload_n C dX7_stride_14 2 rfl rfl ?_
    obtain ⟨r_6, S_4, hc_5, h⟩ := hs_b2_s h
    refine cs_X7_101 C (m_X7_outside x2 S_1 hc_5) (by decide) (Nat.le_of_ble_eq_true rfl) dX7_stride_15 ?_
    refine hs_if_eq (tgt := 25) C dX7_stride_18 (by decide) h (fun h => ?_) (fun h => ?_)
    · skip
      refine hs_iconst (v := 0) C dX7_stride_25 (by decide) ?_
      exact t_X7_stride_26 C hf  x1 x2 (0 : Int32) S_4 h
    · skip
      refine hs_iconst (v := 2) C dX7_stride_21 (by decide) ?_
      refine hs_goto (tgt := 26) C dX7_stride_22 (by decide) ?_
      exact t_X7_stride_26 C hf  x1 x2 (2 : Int32) S_4 h
  · skip
    refine hs_iconst (v := 1) C dX7_stride_9 (by decide) ?_
    refine hs_goto (tgt := 26) C dX7_stride_10 (by decide) ?_
    exact t_X7_stride_26 C hf  x1 x2 (1 : Int32) S_1 h
theorem m_X7_stride (a1 : Int32) (a2 : Int32) (S : hs_M) {S' : hs_M} (h : f_X7_stride a1 a2 S = some S') : hs_met 1 yX7_stride cX7_stride 3 none 1 (fun q => [.ref (q 100), .int a1, .int a2]) S (fun q => none) S' :=
  hs_mkV (res := S') (by decide +kernel) (by decide) (fun q => Nat.le_of_ble_eq_true rfl) fun X C hf => (t_X7_stride_0 C hf a1 a2 S h)
set_option maxRecDepth 100000 in
set_option maxHeartbeats 4000000 in
theorem t_X7_thrown_0 {X : hs_T} (C : hs_C X 1 RX7 cX7_thrown 1 0) {res : Int32 × hs_M} (hf : hs_FI X cX7_thrown res) (S : hs_M) (h : f_X7_thrown_0  S = some res) : hs_Z X 1 S [(0, .ref (hs_q X 100))] [] 0 := by
  unfold f_X7_thrown_0 at h
  refine hs_aload_n C dX7_thrown_0 0 rfl rfl ?_
  refine gf_X7_92 C dX7_thrown_1 ?_
  exact hs_ireti C hf h dX7_thrown_4
theorem m_X7_thrown  (S : hs_M) {r : Int32} {S' : hs_M} (h : f_X7_thrown  S = some (r, S')) : hs_met 1 yX7_thrown cX7_thrown 1 (some .int) 0 (fun q => [.ref (q 100)]) S (fun q => some (.int r)) S' :=
  hs_mkI (res := (r, S')) (by decide +kernel) (by decide) (fun q => Nat.le_of_ble_eq_true rfl) fun X C hf => (t_X7_thrown_0 C hf  S h)
