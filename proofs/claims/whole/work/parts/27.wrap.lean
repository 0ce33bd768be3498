theorem wl_0 : Cond.methodLink RL 7 yX6_stride ∈ hs_tb := hs_w1 (k := 321) (by decide +kernel) (by decide +kernel)
theorem wl_1 : Cond.instanceMethod yX6_stride ∈ hs_tb := hs_w1 (k := 322) (by decide +kernel) (by decide +kernel)
theorem wl_2 : Cond.selects RX6 yX6_stride yX6_stride ∈ hs_tb := hs_w1 (k := 323) (by decide +kernel) (by decide +kernel)
theorem wl_3 : Cond.initialized RX6 ∈ hs_tb := hs_w1 (k := 1) (by decide +kernel) (by decide +kernel)
theorem wl_4 : Cond.code yX6_stride cX6_stride 3 none ∈ hs_tb := hs_w1 (k := 324) (by decide +kernel) (by decide +kernel)
theorem wl_5 : Cond.classLink RL 13 "java/lang/IndexOutOfBoundsException" ∈ hs_tb := hs_w1 (k := 242) (by decide +kernel) (by decide +kernel)
theorem wl_6 : Cond.classLink RL 15 "java/lang/IllegalArgumentException" ∈ hs_tb := hs_w1 (k := 320) (by decide +kernel) (by decide +kernel)
theorem wl_7 : Cond.methodLink RL 17 yX6_head ∈ hs_tb := hs_w1 (k := 371) (by decide +kernel) (by decide +kernel)
theorem wl_8 : Cond.instanceMethod yX6_head ∈ hs_tb := hs_w1 (k := 372) (by decide +kernel) (by decide +kernel)
theorem wl_9 : Cond.selects RX6 yX6_head yX6_head ∈ hs_tb := hs_w1 (k := 373) (by decide +kernel) (by decide +kernel)
theorem wl_10 : Cond.code yX6_head cX6_head 4 none ∈ hs_tb := hs_w1 (k := 374) (by decide +kernel) (by decide +kernel)
theorem wl_11 : Cond.methodLink RL 21 yX6_send ∈ hs_tb := hs_w1 (k := 378) (by decide +kernel) (by decide +kernel)
theorem wl_12 : Cond.instanceMethod yX6_send ∈ hs_tb := hs_w1 (k := 379) (by decide +kernel) (by decide +kernel)
theorem wl_13 : Cond.selects RX6 yX6_send yX6_send ∈ hs_tb := hs_w1 (k := 380) (by decide +kernel) (by decide +kernel)
theorem wl_14 : Cond.code yX6_send cX6_send 8 (some .int) ∈ hs_tb := hs_w1 (k := 381) (by decide +kernel) (by decide +kernel)
theorem wl_15 : Cond.methodLink RL 25 yX6_size ∈ hs_tb := hs_w1 (k := 479) (by decide +kernel) (by decide +kernel)
theorem wl_16 : Cond.instanceMethod yX6_size ∈ hs_tb := hs_w1 (k := 480) (by decide +kernel) (by decide +kernel)
theorem wl_17 : Cond.selects RX6 yX6_size yX6_size ∈ hs_tb := hs_w1 (k := 481) (by decide +kernel) (by decide +kernel)
theorem wl_18 : Cond.code yX6_size cX6_size 2 (some .int) ∈ hs_tb := hs_w1 (k := 482) (by decide +kernel) (by decide +kernel)
theorem wl_19 : Cond.methodLink RL 29 yX6_byteAt ∈ hs_tb := hs_w1 (k := 490) (by decide +kernel) (by decide +kernel)
theorem wl_20 : Cond.instanceMethod yX6_byteAt ∈ hs_tb := hs_w1 (k := 491) (by decide +kernel) (by decide +kernel)
theorem wl_21 : Cond.selects RX6 yX6_byteAt yX6_byteAt ∈ hs_tb := hs_w1 (k := 492) (by decide +kernel) (by decide +kernel)
theorem wl_22 : Cond.code yX6_byteAt cX6_byteAt 3 (some .int) ∈ hs_tb := hs_w1 (k := 493) (by decide +kernel) (by decide +kernel)
theorem wl_23 : Cond.methodLink RL 33 yX6_spoil ∈ hs_tb := hs_w1 (k := 501) (by decide +kernel) (by decide +kernel)
theorem wl_24 : Cond.instanceMethod yX6_spoil ∈ hs_tb := hs_w1 (k := 502) (by decide +kernel) (by decide +kernel)
theorem wl_25 : Cond.selects RX6 yX6_spoil yX6_spoil ∈ hs_tb := hs_w1 (k := 503) (by decide +kernel) (by decide +kernel)
theorem wl_26 : Cond.code yX6_spoil cX6_spoil 4 none ∈ hs_tb := hs_w1 (k := 504) (by decide +kernel) (by decide +kernel)
theorem wl_27 : Cond.methodLink RL 37 yX6_lose ∈ hs_tb := hs_w1 (k := 508) (by decide +kernel) (by decide +kernel)
theorem wl_28 : Cond.instanceMethod yX6_lose ∈ hs_tb := hs_w1 (k := 509) (by decide +kernel) (by decide +kernel)
theorem wl_29 : Cond.selects RX6 yX6_lose yX6_lose ∈ hs_tb := hs_w1 (k := 510) (by decide +kernel) (by decide +kernel)
theorem wl_30 : Cond.code yX6_lose cX6_lose 2 none ∈ hs_tb := hs_w1 (k := 511) (by decide +kernel) (by decide +kernel)
theorem wl_31 : Cond.methodLink RL 41 yX6_deliver ∈ hs_tb := hs_w1 (k := 534) (by decide +kernel) (by decide +kernel)
theorem wl_32 : Cond.instanceMethod yX6_deliver ∈ hs_tb := hs_w1 (k := 535) (by decide +kernel) (by decide +kernel)
theorem wl_33 : Cond.selects RX6 yX6_deliver yX6_deliver ∈ hs_tb := hs_w1 (k := 536) (by decide +kernel) (by decide +kernel)
theorem wl_34 : Cond.code yX6_deliver cX6_deliver 5 (some .int) ∈ hs_tb := hs_w1 (k := 537) (by decide +kernel) (by decide +kernel)
theorem wl_35 : Cond.classLink RL 44 "java/lang/IllegalStateException" ∈ hs_tb := hs_w1 (k := 519) (by decide +kernel) (by decide +kernel)
theorem wl_36 : Cond.classLink RL 46 "java/lang/ArithmeticException" ∈ hs_tb := hs_w1 (k := 520) (by decide +kernel) (by decide +kernel)
theorem wl_37 : Cond.methodLink RL 48 yX6_made ∈ hs_tb := hs_w1 (k := 658) (by decide +kernel) (by decide +kernel)
theorem wl_38 : Cond.instanceMethod yX6_made ∈ hs_tb := hs_w1 (k := 659) (by decide +kernel) (by decide +kernel)
theorem wl_39 : Cond.selects RX6 yX6_made yX6_made ∈ hs_tb := hs_w1 (k := 660) (by decide +kernel) (by decide +kernel)
theorem wl_40 : Cond.code yX6_made cX6_made 2 (some .int) ∈ hs_tb := hs_w1 (k := 661) (by decide +kernel) (by decide +kernel)
theorem wl_41 : Cond.methodLink RL 51 yX6_sender ∈ hs_tb := hs_w1 (k := 666) (by decide +kernel) (by decide +kernel)
theorem wl_42 : Cond.instanceMethod yX6_sender ∈ hs_tb := hs_w1 (k := 667) (by decide +kernel) (by decide +kernel)
theorem wl_43 : Cond.selects RX6 yX6_sender yX6_sender ∈ hs_tb := hs_w1 (k := 668) (by decide +kernel) (by decide +kernel)
theorem wl_44 : Cond.code yX6_sender cX6_sender 4 (some .int) ∈ hs_tb := hs_w1 (k := 669) (by decide +kernel) (by decide +kernel)
theorem wl_45 : Cond.methodLink RL 54 yX6_receiver ∈ hs_tb := hs_w1 (k := 673) (by decide +kernel) (by decide +kernel)
theorem wl_46 : Cond.instanceMethod yX6_receiver ∈ hs_tb := hs_w1 (k := 674) (by decide +kernel) (by decide +kernel)
theorem wl_47 : Cond.selects RX6 yX6_receiver yX6_receiver ∈ hs_tb := hs_w1 (k := 675) (by decide +kernel) (by decide +kernel)
theorem wl_48 : Cond.code yX6_receiver cX6_receiver 4 (some .int) ∈ hs_tb := hs_w1 (k := 676) (by decide +kernel) (by decide +kernel)
theorem wl_49 : Cond.methodLink RL 57 yX6_count ∈ hs_tb := hs_w1 (k := 680) (by decide +kernel) (by decide +kernel)
theorem wl_50 : Cond.instanceMethod yX6_count ∈ hs_tb := hs_w1 (k := 681) (by decide +kernel) (by decide +kernel)
theorem wl_51 : Cond.selects RX6 yX6_count yX6_count ∈ hs_tb := hs_w1 (k := 682) (by decide +kernel) (by decide +kernel)
theorem wl_52 : Cond.code yX6_count cX6_count 2 (some .int) ∈ hs_tb := hs_w1 (k := 683) (by decide +kernel) (by decide +kernel)
def f_L_stride (a1 : Int32) (a2 : Int32) (S : hs_M) : Option (Int32 × hs_M) := (f_X6_stride a1 a2 S).bind (fun r => (if r.1.1 = 0 then some ((0 : Int32), r.2) else if r.1.1 = 1 then some ((1 : Int32), r.2) else if r.1.1 = 2 then some ((2 : Int32), r.2) else none))
def f_L_head (a1 : Int32) (a2 : Int32) (a3 : Int32) (S : hs_M) : Option (Int32 × hs_M) := (f_X6_head a1 a2 a3 S).bind (fun r => (if r.1.1 = 0 then some ((0 : Int32), r.2) else if r.1.1 = 2 then some ((1 : Int32), r.2) else none))
def f_L_send (a1 : Int32) (a2 : Int32) (a3 : Int32) (a4 : Int32) (S : hs_M) : Option (Int32 × hs_M) := (f_X6_send a1 a2 a3 a4 S).bind (fun r => (if r.1.1 = 0 then some ((0 : Int32), hs_U r.2 47 0 r.1.2) else if r.1.1 = 1 then some ((1 : Int32), r.2) else if r.1.1 = 2 then some ((2 : Int32), r.2) else none))
def f_L_size (a1 : Int32) (S : hs_M) : Option (Int32 × hs_M) := (f_X6_size a1 S).bind (fun r => (if r.1.1 = 0 then some ((0 : Int32), hs_U r.2 47 0 r.1.2) else if r.1.1 = 1 then some ((1 : Int32), r.2) else none))
def f_L_byteAt (a1 : Int32) (a2 : Int32) (S : hs_M) : Option (Int32 × hs_M) := (f_X6_byteAt a1 a2 S).bind (fun r => (if r.1.1 = 0 then some ((0 : Int32), hs_U r.2 47 0 r.1.2) else if r.1.1 = 1 then some ((1 : Int32), r.2) else none))
def f_L_spoil (a1 : Int32) (a2 : Int32) (a3 : Int32) (S : hs_M) : Option (Int32 × hs_M) := (f_X6_spoil a1 a2 a3 S).bind (fun r => (if r.1.1 = 0 then some ((0 : Int32), r.2) else if r.1.1 = 1 then some ((1 : Int32), r.2) else if r.1.1 = 2 then some ((2 : Int32), r.2) else none))
def f_L_lose (a1 : Int32) (S : hs_M) : Option (Int32 × hs_M) := (f_X6_lose a1 S).bind (fun r => (if r.1.1 = 0 then some ((0 : Int32), r.2) else if r.1.1 = 1 then some ((1 : Int32), r.2) else none))
def f_L_deliver (a1 : Int32) (S : hs_M) : Option (Int32 × hs_M) := (f_X6_deliver a1 S).bind (fun r => (if r.1.1 = 0 then some ((0 : Int32), hs_U r.2 47 0 r.1.2) else if r.1.1 = 1 then some ((1 : Int32), r.2) else if r.1.1 = 2 then some ((2 : Int32), r.2) else if r.1.1 = 3 then some ((3 : Int32), r.2) else if r.1.1 = 4 then some ((4 : Int32), r.2) else none))
def f_L_made (a1 : Int32) (S : hs_M) : Option (Int32 × hs_M) := (f_X6_made a1 S).bind (fun r => (if r.1.1 = 0 then some ((0 : Int32), hs_U r.2 47 0 r.1.2) else if r.1.1 = 1 then some ((1 : Int32), r.2) else none))
def f_L_sender (a1 : Int32) (a2 : Int32) (S : hs_M) : Option (Int32 × hs_M) := (f_X6_sender a1 a2 S).bind (fun r => (if r.1.1 = 0 then some ((0 : Int32), hs_U r.2 47 0 r.1.2) else if r.1.1 = 1 then some ((1 : Int32), r.2) else if r.1.1 = 2 then some ((2 : Int32), r.2) else none))
def f_L_receiver (a1 : Int32) (a2 : Int32) (S : hs_M) : Option (Int32 × hs_M) := (f_X6_receiver a1 a2 S).bind (fun r => (if r.1.1 = 0 then some ((0 : Int32), hs_U r.2 47 0 r.1.2) else if r.1.1 = 1 then some ((1 : Int32), r.2) else if r.1.1 = 2 then some ((2 : Int32), r.2) else none))
def f_L_count (a1 : Int32) (S : hs_M) : Option (Int32 × hs_M) := (f_X6_count a1 S).bind (fun r => (if r.1.1 = 0 then some ((0 : Int32), hs_U r.2 47 0 r.1.2) else if r.1.1 = 2 then some ((1 : Int32), r.2) else none))
set_option maxRecDepth 100000 in
set_option maxHeartbeats 4000000 in
theorem t_L_stride {X : hs_T} (C : hs_C X 0 RL cL_stride 4 2) (h0c : hs_nc1 X = 0 ∧ hs_nc2 X = 0) (hst : X.1.2.1.stackTraces = false) (hR : X.1.2.2.2.1 = hs_rmw 1) (htab : X.2.1.2.2.2.exceptionTable.toList = tableOf [(0, 6, 9, 13), (0, 6, 12, 15)]) (hSx : hs_Sx (hs_A X) (hs_s X) (hs_s X).heap) {res : Int32 × hs_M} (hf : hs_FI (hs_up X) cL_stride res) (a1 : Int32) (a2 : Int32) (S : hs_M) (h : f_L_stride a1 a2 S = some res) : hs_Z X 4 S [(0, .ref (hs_q X 0)), (1, .int a1), (2, .int a2)] [] 0 := by
  unfold f_L_stride at h
  obtain ⟨r, hc, h⟩ := hs_bd_s h
  refine hs_aload_n C dL_stride_0 0 rfl rfl ?_
  refine hs_iload_n C dL_stride_1 1 rfl rfl ?_
  refine hs_iload_n C dL_stride_2 2 rfl rfl ?_
  refine hs_callVX (i := 0) (kd := 6) (na := 2) C wl_0 wl_1 wl_2 wl_3 wl_4 (by decide +kernel) (by decide) rfl (by decide) rfl (m_X6_stride a1 a2 S hc) hst hSx hR h0c rfl rfl (by decide +kernel) rfl (by decide +kernel) (Nat.le_of_ble_eq_true rfl) dL_stride_3 (fun C1 h0 => ?_) (fun C1 h0 => ?_)
  · rw [if_pos h0] at h
    show hs_Z _ _ _ _ [] _
    refine hs_goto (tgt := 15) C1 dL_stride_6 (by decide) ?_
    refine hs_iconst (v := 0) C1 dL_stride_15 (by decide) ?_
    exact hs_ireti C1 hf h dL_stride_16
  · rw [if_neg h0] at h
    rcases hs_if_s h with ⟨c1, h⟩ | ⟨c1, h⟩
    · rw [c1]
      refine hs_hand (pre := []) (suf := [(0, 6, 12, 15)]) (a := 0) (b := 6) (hp := 9) (ct := 13) C1 htab rfl (fun z hz => by cases hz) (by decide) (by decide) wl_5 (by decide +kernel) hSx (fun q => ?_)
      refine hs_astore_n (lv' := [(3, .ref q), (0, .ref (hs_q X 0)), (1, .int a1), (2, .int a2)]) C1 dL_stride_9 rfl (by decide) rfl ?_
      refine hs_iconst (v := 1) C1 dL_stride_10 (by decide) ?_
      exact hs_ireti C1 hf h dL_stride_11
    · skip
      rcases hs_if_s h with ⟨c1, h⟩ | ⟨c1, h⟩
      · rw [c1]
        refine hs_hand (pre := [(0, 6, 9, 13)]) (suf := []) (a := 0) (b := 6) (hp := 12) (ct := 15) C1 htab rfl (fun z hz => by
          simp only [List.mem_cons, List.not_mem_nil, or_false] at hz
          subst hz
          exact ⟨by decide, _, wl_5, by decide +kernel⟩) (by decide) (by decide) wl_6 (by decide +kernel) hSx (fun q => ?_)
        refine hs_astore_n (lv' := [(3, .ref q), (0, .ref (hs_q X 0)), (1, .int a1), (2, .int a2)]) C1 dL_stride_12 rfl (by decide) rfl ?_
        refine hs_iconst (v := 2) C1 dL_stride_13 (by decide) ?_
        exact hs_ireti C1 hf h dL_stride_14
      · skip
        cases h
theorem m_L_stride (a1 : Int32) (a2 : Int32) (S : hs_M) {r : Int32} {S' : hs_M} (h : f_L_stride a1 a2 S = some (r, S')) : hs_metw yL_stride cL_stride 4 [(0, 6, 9, 13), (0, 6, 12, 15)] 1 (fun q => [.ref (q 0), .int a1, .int a2]) S r S' :=
  hs_mkW (res := (r, S')) (by decide +kernel) (fun q => Nat.le_of_ble_eq_true rfl) fun X C h0c hst hR htab hSx hf => t_L_stride C h0c hst hR htab hSx hf a1 a2 S h
set_option maxRecDepth 100000 in
set_option maxHeartbeats 4000000 in
theorem t_L_head {X : hs_T} (C : hs_C X 0 RL cL_head 5 2) (h0c : hs_nc1 X = 0 ∧ hs_nc2 X = 0) (hst : X.1.2.1.stackTraces = false) (hR : X.1.2.2.2.1 = hs_rmw 1) (htab : X.2.1.2.2.2.exceptionTable.toList = tableOf [(0, 7, 10, 15)]) (hSx : hs_Sx (hs_A X) (hs_s X) (hs_s X).heap) {res : Int32 × hs_M} (hf : hs_FI (hs_up X) cL_head res) (a1 : Int32) (a2 : Int32) (a3 : Int32) (S : hs_M) (h : f_L_head a1 a2 a3 S = some res) : hs_Z X 5 S [(0, .ref (hs_q X 0)), (1, .int a1), (2, .int a2), (3, .int a3)] [] 0 := by
  unfold f_L_head at h
  obtain ⟨r, hc, h⟩ := hs_bd_s h
  refine hs_aload_n C dL_head_0 0 rfl rfl ?_
  refine hs_iload_n C dL_head_1 1 rfl rfl ?_
  refine hs_iload_n C dL_head_2 2 rfl rfl ?_
  refine hs_iload_n C dL_head_3 3 rfl rfl ?_
  refine hs_callVX (i := 0) (kd := 6) (na := 3) C wl_7 wl_8 wl_9 wl_3 wl_10 (by decide +kernel) (by decide) rfl (by decide) rfl (m_X6_head a1 a2 a3 S hc) hst hSx hR h0c rfl rfl (by decide +kernel) rfl (by decide +kernel) (Nat.le_of_ble_eq_true rfl) dL_head_4 (fun C1 h0 => ?_) (fun C1 h0 => ?_)
  · rw [if_pos h0] at h
    show hs_Z _ _ _ _ [] _
    refine hs_goto (tgt := 14) C1 dL_head_7 (by decide) ?_
    refine hs_iconst (v := 0) C1 dL_head_14 (by decide) ?_
    exact hs_ireti C1 hf h dL_head_15
  · rw [if_neg h0] at h
    rcases hs_if_s h with ⟨c1, h⟩ | ⟨c1, h⟩
    · rw [c1]
      refine hs_hand (pre := []) (suf := []) (a := 0) (b := 7) (hp := 10) (ct := 15) C1 htab rfl (fun z hz => by cases hz) (by decide) (by decide) wl_6 (by decide +kernel) hSx (fun q => ?_)
      refine hs_astore (lv' := [(4, .ref q), (0, .ref (hs_q X 0)), (1, .int a1), (2, .int a2), (3, .int a3)]) C1 dL_head_10 (by decide) rfl ?_
      refine hs_iconst (v := 1) C1 dL_head_12 (by decide) ?_
      exact hs_ireti C1 hf h dL_head_13
    · skip
      cases h
theorem m_L_head (a1 : Int32) (a2 : Int32) (a3 : Int32) (S : hs_M) {r : Int32} {S' : hs_M} (h : f_L_head a1 a2 a3 S = some (r, S')) : hs_metw yL_head cL_head 5 [(0, 7, 10, 15)] 1 (fun q => [.ref (q 0), .int a1, .int a2, .int a3]) S r S' :=
  hs_mkW (res := (r, S')) (by decide +kernel) (fun q => Nat.le_of_ble_eq_true rfl) fun X C h0c hst hR htab hSx hf => t_L_head C h0c hst hR htab hSx hf a1 a2 a3 S h
set_option maxRecDepth 100000 in
set_option maxHeartbeats 4000000 in
theorem t_L_send {X : hs_T} (C : hs_C X 0 RL cL_send 7 5) (h0c : hs_nc1 X = 0 ∧ hs_nc2 X = 0) (hst : X.1.2.1.stackTraces = false) (hR : X.1.2.2.2.1 = hs_rmw 4) (htab : X.2.1.2.2.2.exceptionTable.toList = tableOf [(0, 14, 17, 13), (0, 14, 21, 15)]) (hSx : hs_Sx (hs_A X) (hs_s X) (hs_s X).heap) {res : Int32 × hs_M} (hf : hs_FI (hs_up X) cL_send res) (a1 : Int32) (a2 : Int32) (a3 : Int32) (a4 : Int32) (S : hs_M) (h : f_L_send a1 a2 a3 a4 S = some res) : hs_Z X 7 S [(0, .ref (hs_q X 0)), (1, .int a1), (2, .int a2), (3, .int a3), (4, .int a4), (5, .ref (hs_q X 47))] [] 0 := by
  unfold f_L_send at h
  obtain ⟨r, hc, h⟩ := hs_bd_s h
  refine hs_aload C dL_send_0 5 rfl ?_
  refine hs_iconst (v := 0) C dL_send_2 (by decide) ?_
  refine hs_aload_n C dL_send_3 0 rfl rfl ?_
  refine hs_iload_n C dL_send_4 1 rfl rfl ?_
  refine hs_iload_n C dL_send_5 2 rfl rfl ?_
  refine hs_iload_n C dL_send_6 3 rfl rfl ?_
  refine hs_iload C dL_send_7 4 rfl ?_
  refine hs_callVX (i := 0) (kd := 6) (na := 4) C wl_11 wl_12 wl_13 wl_3 wl_14 (by decide +kernel) (by decide) rfl (by decide) rfl (m_X6_send a1 a2 a3 a4 S hc) hst hSx hR h0c rfl rfl (by decide +kernel) rfl (by decide +kernel) (Nat.le_of_ble_eq_true rfl) dL_send_9 (fun C1 h0 => ?_) (fun C1 h0 => ?_)
  · rw [if_pos h0] at h
    show hs_Z _ _ _ _ (.int r.1.2 :: .int 0 :: .ref (hs_q X 47) :: []) _
    refine hs_out C1 dL_send_12 dL_send_13 ?_
    refine hs_goto (tgt := 25) C1 dL_send_14 (by decide) ?_
    refine hs_iconst (v := 0) C1 dL_send_25 (by decide) ?_
    exact hs_ireti C1 hf h dL_send_26
  · rw [if_neg h0] at h
    rcases hs_if_s h with ⟨c1, h⟩ | ⟨c1, h⟩
    · rw [c1]
      refine hs_hand (pre := []) (suf := [(0, 14, 21, 15)]) (a := 0) (b := 14) (hp := 17) (ct := 13) C1 htab rfl (fun z hz => by cases hz) (by decide) (by decide) wl_5 (by decide +kernel) hSx (fun q => ?_)
      refine hs_astore (lv' := [(6, .ref q), (0, .ref (hs_q X 0)), (1, .int a1), (2, .int a2), (3, .int a3), (4, .int a4), (5, .ref (hs_q X 47))]) C1 dL_send_17 (by decide) rfl ?_
      refine hs_iconst (v := 1) C1 dL_send_19 (by decide) ?_
      exact hs_ireti C1 hf h dL_send_20
    · skip
      rcases hs_if_s h with ⟨c1, h⟩ | ⟨c1, h⟩
      · rw [c1]
        refine hs_hand (pre := [(0, 14, 17, 13)]) (suf := []) (a := 0) (b := 14) (hp := 21) (ct := 15) C1 htab rfl (fun z hz => by
          simp only [List.mem_cons, List.not_mem_nil, or_false] at hz
          subst hz
          exact ⟨by decide, _, wl_5, by decide +kernel⟩) (by decide) (by decide) wl_6 (by decide +kernel) hSx (fun q => ?_)
        refine hs_astore (lv' := [(6, .ref q), (0, .ref (hs_q X 0)), (1, .int a1), (2, .int a2), (3, .int a3), (4, .int a4), (5, .ref (hs_q X 47))]) C1 dL_send_21 (by decide) rfl ?_
        refine hs_iconst (v := 2) C1 dL_send_23 (by decide) ?_
        exact hs_ireti C1 hf h dL_send_24
      · skip
        cases h
theorem m_L_send (a1 : Int32) (a2 : Int32) (a3 : Int32) (a4 : Int32) (S : hs_M) {r : Int32} {S' : hs_M} (h : f_L_send a1 a2 a3 a4 S = some (r, S')) : hs_metw yL_send cL_send 7 [(0, 14, 17, 13), (0, 14, 21, 15)] 4 (fun q => [.ref (q 0), .int a1, .int a2, .int a3, .int a4, .ref (q 47)]) S r S' :=
  hs_mkW (res := (r, S')) (by decide +kernel) (fun q => Nat.le_of_ble_eq_true rfl) fun X C h0c hst hR htab hSx hf => t_L_send C h0c hst hR htab hSx hf a1 a2 a3 a4 S h
set_option maxRecDepth 100000 in
set_option maxHeartbeats 4000000 in
theorem t_L_size {X : hs_T} (C : hs_C X 0 RL cL_size 4 2) (h0c : hs_nc1 X = 0 ∧ hs_nc2 X = 0) (hst : X.1.2.1.stackTraces = false) (hR : X.1.2.2.2.1 = hs_rmw 1) (htab : X.2.1.2.2.2.exceptionTable.toList = tableOf [(0, 9, 12, 13)]) (hSx : hs_Sx (hs_A X) (hs_s X) (hs_s X).heap) {res : Int32 × hs_M} (hf : hs_FI (hs_up X) cL_size res) (a1 : Int32) (S : hs_M) (h : f_L_size a1 S = some res) : hs_Z X 4 S [(0, .ref (hs_q X 0)), (1, .int a1), (2, .ref (hs_q X 47))] [] 0 := by
  unfold f_L_size at h
  obtain ⟨r, hc, h⟩ := hs_bd_s h
  refine hs_aload_n C dL_size_0 2 rfl rfl ?_
  refine hs_iconst (v := 0) C dL_size_1 (by decide) ?_
  refine hs_aload_n C dL_size_2 0 rfl rfl ?_
  refine hs_iload_n C dL_size_3 1 rfl rfl ?_
  refine hs_callVX (i := 0) (kd := 6) (na := 1) C wl_15 wl_16 wl_17 wl_3 wl_18 (by decide +kernel) (by decide) rfl (by decide) rfl (m_X6_size a1 S hc) hst hSx hR h0c rfl rfl (by decide +kernel) rfl (by decide +kernel) (Nat.le_of_ble_eq_true rfl) dL_size_4 (fun C1 h0 => ?_) (fun C1 h0 => ?_)
  · rw [if_pos h0] at h
    show hs_Z _ _ _ _ (.int r.1.2 :: .int 0 :: .ref (hs_q X 47) :: []) _
    refine hs_out C1 dL_size_7 dL_size_8 ?_
    refine hs_goto (tgt := 15) C1 dL_size_9 (by decide) ?_
    refine hs_iconst (v := 0) C1 dL_size_15 (by decide) ?_
    exact hs_ireti C1 hf h dL_size_16
  · rw [if_neg h0] at h
    rcases hs_if_s h with ⟨c1, h⟩ | ⟨c1, h⟩
    · rw [c1]
      refine hs_hand (pre := []) (suf := []) (a := 0) (b := 9) (hp := 12) (ct := 13) C1 htab rfl (fun z hz => by cases hz) (by decide) (by decide) wl_5 (by decide +kernel) hSx (fun q => ?_)
      refine hs_astore_n (lv' := [(3, .ref q), (0, .ref (hs_q X 0)), (1, .int a1), (2, .ref (hs_q X 47))]) C1 dL_size_12 rfl (by decide) rfl ?_
      refine hs_iconst (v := 1) C1 dL_size_13 (by decide) ?_
      exact hs_ireti C1 hf h dL_size_14
    · skip
      cases h
theorem m_L_size (a1 : Int32) (S : hs_M) {r : Int32} {S' : hs_M} (h : f_L_size a1 S = some (r, S')) : hs_metw yL_size cL_size 4 [(0, 9, 12, 13)] 1 (fun q => [.ref (q 0), .int a1, .ref (q 47)]) S r S' :=
  hs_mkW (res := (r, S')) (by decide +kernel) (fun q => Nat.le_of_ble_eq_true rfl) fun X C h0c hst hR htab hSx hf => t_L_size C h0c hst hR htab hSx hf a1 S h
set_option maxRecDepth 100000 in
set_option maxHeartbeats 4000000 in
theorem t_L_byteAt {X : hs_T} (C : hs_C X 0 RL cL_byteAt 5 2) (h0c : hs_nc1 X = 0 ∧ hs_nc2 X = 0) (hst : X.1.2.1.stackTraces = false) (hR : X.1.2.2.2.1 = hs_rmw 1) (htab : X.2.1.2.2.2.exceptionTable.toList = tableOf [(0, 10, 13, 13)]) (hSx : hs_Sx (hs_A X) (hs_s X) (hs_s X).heap) {res : Int32 × hs_M} (hf : hs_FI (hs_up X) cL_byteAt res) (a1 : Int32) (a2 : Int32) (S : hs_M) (h : f_L_byteAt a1 a2 S = some res) : hs_Z X 5 S [(0, .ref (hs_q X 0)), (1, .int a1), (2, .int a2), (3, .ref (hs_q X 47))] [] 0 := by
  unfold f_L_byteAt at h
  obtain ⟨r, hc, h⟩ := hs_bd_s h
  refine hs_aload_n C dL_byteAt_0 3 rfl rfl ?_
  refine hs_iconst (v := 0) C dL_byteAt_1 (by decide) ?_
  refine hs_aload_n C dL_byteAt_2 0 rfl rfl ?_
  refine hs_iload_n C dL_byteAt_3 1 rfl rfl ?_
  refine hs_iload_n C dL_byteAt_4 2 rfl rfl ?_
  refine hs_callVX (i := 0) (kd := 6) (na := 2) C wl_19 wl_20 wl_21 wl_3 wl_22 (by decide +kernel) (by decide) rfl (by decide) rfl (m_X6_byteAt a1 a2 S hc) hst hSx hR h0c rfl rfl (by decide +kernel) rfl (by decide +kernel) (Nat.le_of_ble_eq_true rfl) dL_byteAt_5 (fun C1 h0 => ?_) (fun C1 h0 => ?_)
  · rw [if_pos h0] at h
    show hs_Z _ _ _ _ (.int r.1.2 :: .int 0 :: .ref (hs_q X 47) :: []) _
    refine hs_out C1 dL_byteAt_8 dL_byteAt_9 ?_
    refine hs_goto (tgt := 17) C1 dL_byteAt_10 (by decide) ?_
    refine hs_iconst (v := 0) C1 dL_byteAt_17 (by decide) ?_
    exact hs_ireti C1 hf h dL_byteAt_18
  · rw [if_neg h0] at h
    rcases hs_if_s h with ⟨c1, h⟩ | ⟨c1, h⟩
    · rw [c1]
      refine hs_hand (pre := []) (suf := []) (a := 0) (b := 10) (hp := 13) (ct := 13) C1 htab rfl (fun z hz => by cases hz) (by decide) (by decide) wl_5 (by decide +kernel) hSx (fun q => ?_)
      refine hs_astore (lv' := [(4, .ref q), (0, .ref (hs_q X 0)), (1, .int a1), (2, .int a2), (3, .ref (hs_q X 47))]) C1 dL_byteAt_13 (by decide) rfl ?_
      refine hs_iconst (v := 1) C1 dL_byteAt_15 (by decide) ?_
      exact hs_ireti C1 hf h dL_byteAt_16
    · skip
      cases h
theorem m_L_byteAt (a1 : Int32) (a2 : Int32) (S : hs_M) {r : Int32} {S' : hs_M} (h : f_L_byteAt a1 a2 S = some (r, S')) : hs_metw yL_byteAt cL_byteAt 5 [(0, 10, 13, 13)] 1 (fun q => [.ref (q 0), .int a1, .int a2, .ref (q 47)]) S r S' :=
  hs_mkW (res := (r, S')) (by decide +kernel) (fun q => Nat.le_of_ble_eq_true rfl) fun X C h0c hst hR htab hSx hf => t_L_byteAt C h0c hst hR htab hSx hf a1 a2 S h
set_option maxRecDepth 100000 in
set_option maxHeartbeats 4000000 in
theorem t_L_spoil {X : hs_T} (C : hs_C X 0 RL cL_spoil 5 2) (h0c : hs_nc1 X = 0 ∧ hs_nc2 X = 0) (hst : X.1.2.1.stackTraces = false) (hR : X.1.2.2.2.1 = hs_rmw 1) (htab : X.2.1.2.2.2.exceptionTable.toList = tableOf [(0, 7, 10, 13), (0, 7, 14, 15)]) (hSx : hs_Sx (hs_A X) (hs_s X) (hs_s X).heap) {res : Int32 × hs_M} (hf : hs_FI (hs_up X) cL_spoil res) (a1 : Int32) (a2 : Int32) (a3 : Int32) (S : hs_M) (h : f_L_spoil a1 a2 a3 S = some res) : hs_Z X 5 S [(0, .ref (hs_q X 0)), (1, .int a1), (2, .int a2), (3, .int a3)] [] 0 := by
  unfold f_L_spoil at h
  obtain ⟨r, hc, h⟩ := hs_bd_s h
  refine hs_aload_n C dL_spoil_0 0 rfl rfl ?_
  refine hs_iload_n C dL_spoil_1 1 rfl rfl ?_
  refine hs_iload_n C dL_spoil_2 2 rfl rfl ?_
  refine hs_iload_n C dL_spoil_3 3 rfl rfl ?_
  refine hs_callVX (i := 0) (kd := 6) (na := 3) C wl_23 wl_24 wl_25 wl_3 wl_26 (by decide +kernel) (by decide) rfl (by decide) rfl (m_X6_spoil a1 a2 a3 S hc) hst hSx hR h0c rfl rfl (by decide +kernel) rfl (by decide +kernel) (Nat.le_of_ble_eq_true rfl) dL_spoil_4 (fun C1 h0 => ?_) (fun C1 h0 => ?_)
  · rw [if_pos h0] at h
    show hs_Z _ _ _ _ [] _
    refine hs_goto (tgt := 18) C1 dL_spoil_7 (by decide) ?_
    refine hs_iconst (v := 0) C1 dL_spoil_18 (by decide) ?_
    exact hs_ireti C1 hf h dL_spoil_19
  · rw [if_neg h0] at h
    rcases hs_if_s h with ⟨c1, h⟩ | ⟨c1, h⟩
    · rw [c1]
      refine hs_hand (pre := []) (suf := [(0, 7, 14, 15)]) (a := 0) (b := 7) (hp := 10) (ct := 13) C1 htab rfl (fun z hz => by cases hz) (by decide) (by decide) wl_5 (by decide +kernel) hSx (fun q => ?_)
      refine hs_astore (lv' := [(4, .ref q), (0, .ref (hs_q X 0)), (1, .int a1), (2, .int a2), (3, .int a3)]) C1 dL_spoil_10 (by decide) rfl ?_
      refine hs_iconst (v := 1) C1 dL_spoil_12 (by decide) ?_
      exact hs_ireti C1 hf h dL_spoil_13
    · skip
      rcases hs_if_s h with ⟨c1, h⟩ | ⟨c1, h⟩
      · rw [c1]
        refine hs_hand (pre := [(0, 7, 10, 13)]) (suf := []) (a := 0) (b := 7) (hp := 14) (ct := 15) C1 htab rfl (fun z hz => by
          simp only [List.mem_cons, List.not_mem_nil, or_false] at hz
          subst hz
          exact ⟨by decide, _, wl_5, by decide +kernel⟩) (by decide) (by decide) wl_6 (by decide +kernel) hSx (fun q => ?_)
        refine hs_astore (lv' := [(4, .ref q), (0, .ref (hs_q X 0)), (1, .int a1), (2, .int a2), (3, .int a3)]) C1 dL_spoil_14 (by decide) rfl ?_
        refine hs_iconst (v := 2) C1 dL_spoil_16 (by decide) ?_
        exact hs_ireti C1 hf h dL_spoil_17
      · skip
        cases h
theorem m_L_spoil (a1 : Int32) (a2 : Int32) (a3 : Int32) (S : hs_M) {r : Int32} {S' : hs_M} (h : f_L_spoil a1 a2 a3 S = some (r, S')) : hs_metw yL_spoil cL_spoil 5 [(0, 7, 10, 13), (0, 7, 14, 15)] 1 (fun q => [.ref (q 0), .int a1, .int a2, .int a3]) S r S' :=
  hs_mkW (res := (r, S')) (by decide +kernel) (fun q => Nat.le_of_ble_eq_true rfl) fun X C h0c hst hR htab hSx hf => t_L_spoil C h0c hst hR htab hSx hf a1 a2 a3 S h
set_option maxRecDepth 100000 in
set_option maxHeartbeats 4000000 in
theorem t_L_lose {X : hs_T} (C : hs_C X 0 RL cL_lose 3 2) (h0c : hs_nc1 X = 0 ∧ hs_nc2 X = 0) (hst : X.1.2.1.stackTraces = false) (hR : X.1.2.2.2.1 = hs_rmw 1) (htab : X.2.1.2.2.2.exceptionTable.toList = tableOf [(0, 5, 8, 13)]) (hSx : hs_Sx (hs_A X) (hs_s X) (hs_s X).heap) {res : Int32 × hs_M} (hf : hs_FI (hs_up X) cL_lose res) (a1 : Int32) (S : hs_M) (h : f_L_lose a1 S = some res) : hs_Z X 3 S [(0, .ref (hs_q X 0)), (1, .int a1)] [] 0 := by
  unfold f_L_lose at h
  obtain ⟨r, hc, h⟩ := hs_bd_s h
  refine hs_aload_n C dL_lose_0 0 rfl rfl ?_
  refine hs_iload_n C dL_lose_1 1 rfl rfl ?_
  refine hs_callVX (i := 0) (kd := 6) (na := 1) C wl_27 wl_28 wl_29 wl_3 wl_30 (by decide +kernel) (by decide) rfl (by decide) rfl (m_X6_lose a1 S hc) hst hSx hR h0c rfl rfl (by decide +kernel) rfl (by decide +kernel) (Nat.le_of_ble_eq_true rfl) dL_lose_2 (fun C1 h0 => ?_) (fun C1 h0 => ?_)
  · rw [if_pos h0] at h
    show hs_Z _ _ _ _ [] _
    refine hs_goto (tgt := 11) C1 dL_lose_5 (by decide) ?_
    refine hs_iconst (v := 0) C1 dL_lose_11 (by decide) ?_
    exact hs_ireti C1 hf h dL_lose_12
  · rw [if_neg h0] at h
    rcases hs_if_s h with ⟨c1, h⟩ | ⟨c1, h⟩
    · rw [c1]
      refine hs_hand (pre := []) (suf := []) (a := 0) (b := 5) (hp := 8) (ct := 13) C1 htab rfl (fun z hz => by cases hz) (by decide) (by decide) wl_5 (by decide +kernel) hSx (fun q => ?_)
      refine hs_astore_n (lv' := [(2, .ref q), (0, .ref (hs_q X 0)), (1, .int a1)]) C1 dL_lose_8 rfl (by decide) rfl ?_
      refine hs_iconst (v := 1) C1 dL_lose_9 (by decide) ?_
      exact hs_ireti C1 hf h dL_lose_10
    · skip
      cases h
theorem m_L_lose (a1 : Int32) (S : hs_M) {r : Int32} {S' : hs_M} (h : f_L_lose a1 S = some (r, S')) : hs_metw yL_lose cL_lose 3 [(0, 5, 8, 13)] 1 (fun q => [.ref (q 0), .int a1]) S r S' :=
  hs_mkW (res := (r, S')) (by decide +kernel) (fun q => Nat.le_of_ble_eq_true rfl) fun X C h0c hst hR htab hSx hf => t_L_lose C h0c hst hR htab hSx hf a1 S h
set_option maxRecDepth 100000 in
set_option maxHeartbeats 4000000 in
theorem t_L_deliver {X : hs_T} (C : hs_C X 0 RL cL_deliver 4 7) (h0c : hs_nc1 X = 0 ∧ hs_nc2 X = 0) (hst : X.1.2.1.stackTraces = false) (hR : X.1.2.2.2.1 = hs_rmw 6) (htab : X.2.1.2.2.2.exceptionTable.toList = tableOf [(0, 9, 12, 13), (0, 9, 15, 15), (0, 9, 18, 44), (0, 9, 21, 46)]) (hSx : hs_Sx (hs_A X) (hs_s X) (hs_s X).heap) {res : Int32 × hs_M} (hf : hs_FI (hs_up X) cL_deliver res) (a1 : Int32) (S : hs_M) (h : f_L_deliver a1 S = some res) : hs_Z X 4 S [(0, .ref (hs_q X 0)), (1, .int a1), (2, .ref (hs_q X 47))] [] 0 := by
  unfold f_L_deliver at h
  obtain ⟨r, hc, h⟩ := hs_bd_s h
  refine hs_aload_n C dL_deliver_0 2 rfl rfl ?_
  refine hs_iconst (v := 0) C dL_deliver_1 (by decide) ?_
  refine hs_aload_n C dL_deliver_2 0 rfl rfl ?_
  refine hs_iload_n C dL_deliver_3 1 rfl rfl ?_
  refine hs_callVX (i := 0) (kd := 6) (na := 1) C wl_31 wl_32 wl_33 wl_3 wl_34 (by decide +kernel) (by decide) rfl (by decide) rfl (m_X6_deliver a1 S hc) hst hSx hR h0c rfl rfl (by decide +kernel) rfl (by decide +kernel) (Nat.le_of_ble_eq_true rfl) dL_deliver_4 (fun C1 h0 => ?_) (fun C1 h0 => ?_)
  · rw [if_pos h0] at h
    show hs_Z _ _ _ _ (.int r.1.2 :: .int 0 :: .ref (hs_q X 47) :: []) _
    refine hs_out C1 dL_deliver_7 dL_deliver_8 ?_
    refine hs_goto (tgt := 24) C1 dL_deliver_9 (by decide) ?_
    refine hs_iconst (v := 0) C1 dL_deliver_24 (by decide) ?_
    exact hs_ireti C1 hf h dL_deliver_25
  · rw [if_neg h0] at h
    rcases hs_if_s h with ⟨c1, h⟩ | ⟨c1, h⟩
    · rw [c1]
      refine hs_hand (pre := []) (suf := [(0, 9, 15, 15), (0, 9, 18, 44), (0, 9, 21, 46)]) (a := 0) (b := 9) (hp := 12) (ct := 13) C1 htab rfl (fun z hz => by cases hz) (by decide) (by decide) wl_5 (by decide +kernel) hSx (fun q => ?_)
      refine hs_astore_n (lv' := [(3, .ref q), (0, .ref (hs_q X 0)), (1, .int a1), (2, .ref (hs_q X 47))]) C1 dL_deliver_12 rfl (by decide) rfl ?_
      refine hs_iconst (v := 1) C1 dL_deliver_13 (by decide) ?_
      exact hs_ireti C1 hf h dL_deliver_14
    · skip
      rcases hs_if_s h with ⟨c1, h⟩ | ⟨c1, h⟩
      · rw [c1]
        refine hs_hand (pre := [(0, 9, 12, 13)]) (suf := [(0, 9, 18, 44), (0, 9, 21, 46)]) (a := 0) (b := 9) (hp := 15) (ct := 15) C1 htab rfl (fun z hz => by
          simp only [List.mem_cons, List.not_mem_nil, or_false] at hz
          subst hz
          exact ⟨by decide, _, wl_5, by decide +kernel⟩) (by decide) (by decide) wl_6 (by decide +kernel) hSx (fun q => ?_)
        refine hs_astore_n (lv' := [(3, .ref q), (0, .ref (hs_q X 0)), (1, .int a1), (2, .ref (hs_q X 47))]) C1 dL_deliver_15 rfl (by decide) rfl ?_
        refine hs_iconst (v := 2) C1 dL_deliver_16 (by decide) ?_
        exact hs_ireti C1 hf h dL_deliver_17
      · skip
        rcases hs_if_s h with ⟨c1, h⟩ | ⟨c1, h⟩
        · rw [c1]
          refine hs_hand (pre := [(0, 9, 12, 13), (0, 9, 15, 15)]) (suf := [(0, 9, 21, 46)]) (a := 0) (b := 9) (hp := 18) (ct := 44) C1 htab rfl (fun z hz => by
            simp only [List.mem_cons, List.not_mem_nil, or_false] at hz
            rcases hz with rfl | rfl
            · exact ⟨by decide, _, wl_5, by decide +kernel⟩
            · exact ⟨by decide, _, wl_6, by decide +kernel⟩) (by decide) (by decide) wl_35 (by decide +kernel) hSx (fun q => ?_)
          refine hs_astore_n (lv' := [(3, .ref q), (0, .ref (hs_q X 0)), (1, .int a1), (2, .ref (hs_q X 47))]) C1 dL_deliver_18 rfl (by decide) rfl ?_
          refine hs_iconst (v := 3) C1 dL_deliver_19 (by decide) ?_
          exact hs_ireti C1 hf h dL_deliver_20
        · skip
          rcases hs_if_s h with ⟨c1, h⟩ | ⟨c1, h⟩
          · rw [c1]
            refine hs_hand (pre := [(0, 9, 12, 13), (0, 9, 15, 15), (0, 9, 18, 44)]) (suf := []) (a := 0) (b := 9) (hp := 21) (ct := 46) C1 htab rfl (fun z hz => by
              simp only [List.mem_cons, List.not_mem_nil, or_false] at hz
              rcases hz with rfl | rfl | rfl
              · exact ⟨by decide, _, wl_5, by decide +kernel⟩
              · exact ⟨by decide, _, wl_6, by decide +kernel⟩
              · exact ⟨by decide, _, wl_35, by decide +kernel⟩) (by decide) (by decide) wl_36 (by decide +kernel) hSx (fun q => ?_)
            refine hs_astore_n (lv' := [(3, .ref q), (0, .ref (hs_q X 0)), (1, .int a1), (2, .ref (hs_q X 47))]) C1 dL_deliver_21 rfl (by decide) rfl ?_
            refine hs_iconst (v := 4) C1 dL_deliver_22 (by decide) ?_
            exact hs_ireti C1 hf h dL_deliver_23
          · skip
            cases h
theorem m_L_deliver (a1 : Int32) (S : hs_M) {r : Int32} {S' : hs_M} (h : f_L_deliver a1 S = some (r, S')) : hs_metw yL_deliver cL_deliver 4 [(0, 9, 12, 13), (0, 9, 15, 15), (0, 9, 18, 44), (0, 9, 21, 46)] 6 (fun q => [.ref (q 0), .int a1, .ref (q 47)]) S r S' :=
  hs_mkW (res := (r, S')) (by decide +kernel) (fun q => Nat.le_of_ble_eq_true rfl) fun X C h0c hst hR htab hSx hf => t_L_deliver C h0c hst hR htab hSx hf a1 S h
set_option maxRecDepth 100000 in
set_option maxHeartbeats 4000000 in
theorem t_L_made {X : hs_T} (C : hs_C X 0 RL cL_made 4 3) (h0c : hs_nc1 X = 0 ∧ hs_nc2 X = 0) (hst : X.1.2.1.stackTraces = false) (hR : X.1.2.2.2.1 = hs_rmw 2) (htab : X.2.1.2.2.2.exceptionTable.toList = tableOf [(0, 9, 12, 13)]) (hSx : hs_Sx (hs_A X) (hs_s X) (hs_s X).heap) {res : Int32 × hs_M} (hf : hs_FI (hs_up X) cL_made res) (a1 : Int32) (S : hs_M) (h : f_L_made a1 S = some res) : hs_Z X 4 S [(0, .ref (hs_q X 0)), (1, .int a1), (2, .ref (hs_q X 47))] [] 0 := by
  unfold f_L_made at h
  obtain ⟨r, hc, h⟩ := hs_bd_s h
  refine hs_aload_n C dL_made_0 2 rfl rfl ?_
  refine hs_iconst (v := 0) C dL_made_1 (by decide) ?_
  refine hs_aload_n C dL_made_2 0 rfl rfl ?_
  refine hs_iload_n C dL_made_3 1 rfl rfl ?_
  refine hs_callVX (i := 0) (kd := 6) (na := 1) C wl_37 wl_38 wl_39 wl_3 wl_40 (by decide +kernel) (by decide) rfl (by decide) rfl (m_X6_made a1 S hc) hst hSx hR h0c rfl rfl (by decide +kernel) rfl (by decide +kernel) (Nat.le_of_ble_eq_true rfl) dL_made_4 (fun C1 h0 => ?_) (fun C1 h0 => ?_)
  · rw [if_pos h0] at h
    show hs_Z _ _ _ _ (.int r.1.2 :: .int 0 :: .ref (hs_q X 47) :: []) _
    refine hs_out C1 dL_made_7 dL_made_8 ?_
    refine hs_goto (tgt := 15) C1 dL_made_9 (by decide) ?_
    refine hs_iconst (v := 0) C1 dL_made_15 (by decide) ?_
    exact hs_ireti C1 hf h dL_made_16
  · rw [if_neg h0] at h
    rcases hs_if_s h with ⟨c1, h⟩ | ⟨c1, h⟩
    · rw [c1]
      refine hs_hand (pre := []) (suf := []) (a := 0) (b := 9) (hp := 12) (ct := 13) C1 htab rfl (fun z hz => by cases hz) (by decide) (by decide) wl_5 (by decide +kernel) hSx (fun q => ?_)
      refine hs_astore_n (lv' := [(3, .ref q), (0, .ref (hs_q X 0)), (1, .int a1), (2, .ref (hs_q X 47))]) C1 dL_made_12 rfl (by decide) rfl ?_
      refine hs_iconst (v := 1) C1 dL_made_13 (by decide) ?_
      exact hs_ireti C1 hf h dL_made_14
    · skip
      cases h
theorem m_L_made (a1 : Int32) (S : hs_M) {r : Int32} {S' : hs_M} (h : f_L_made a1 S = some (r, S')) : hs_metw yL_made cL_made 4 [(0, 9, 12, 13)] 2 (fun q => [.ref (q 0), .int a1, .ref (q 47)]) S r S' :=
  hs_mkW (res := (r, S')) (by decide +kernel) (fun q => Nat.le_of_ble_eq_true rfl) fun X C h0c hst hR htab hSx hf => t_L_made C h0c hst hR htab hSx hf a1 S h
set_option maxRecDepth 100000 in
set_option maxHeartbeats 4000000 in
theorem t_L_sender {X : hs_T} (C : hs_C X 0 RL cL_sender 5 2) (h0c : hs_nc1 X = 0 ∧ hs_nc2 X = 0) (hst : X.1.2.1.stackTraces = false) (hR : X.1.2.2.2.1 = hs_rmw 1) (htab : X.2.1.2.2.2.exceptionTable.toList = tableOf [(0, 10, 13, 13), (0, 10, 17, 15)]) (hSx : hs_Sx (hs_A X) (hs_s X) (hs_s X).heap) {res : Int32 × hs_M} (hf : hs_FI (hs_up X) cL_sender res) (a1 : Int32) (a2 : Int32) (S : hs_M) (h : f_L_sender a1 a2 S = some res) : hs_Z X 5 S [(0, .ref (hs_q X 0)), (1, .int a1), (2, .int a2), (3, .ref (hs_q X 47))] [] 0 := by
  unfold f_L_sender at h
  obtain ⟨r, hc, h⟩ := hs_bd_s h
  refine hs_aload_n C dL_sender_0 3 rfl rfl ?_
  refine hs_iconst (v := 0) C dL_sender_1 (by decide) ?_
  refine hs_aload_n C dL_sender_2 0 rfl rfl ?_
  refine hs_iload_n C dL_sender_3 1 rfl rfl ?_
  refine hs_iload_n C dL_sender_4 2 rfl rfl ?_
  refine hs_callVX (i := 0) (kd := 6) (na := 2) C wl_41 wl_42 wl_43 wl_3 wl_44 (by decide +kernel) (by decide) rfl (by decide) rfl (m_X6_sender a1 a2 S hc) hst hSx hR h0c rfl rfl (by decide +kernel) rfl (by decide +kernel) (Nat.le_of_ble_eq_true rfl) dL_sender_5 (fun C1 h0 => ?_) (fun C1 h0 => ?_)
  · rw [if_pos h0] at h
    show hs_Z _ _ _ _ (.int r.1.2 :: .int 0 :: .ref (hs_q X 47) :: []) _
    refine hs_out C1 dL_sender_8 dL_sender_9 ?_
    refine hs_goto (tgt := 21) C1 dL_sender_10 (by decide) ?_
    refine hs_iconst (v := 0) C1 dL_sender_21 (by decide) ?_
    exact hs_ireti C1 hf h dL_sender_22
  · rw [if_neg h0] at h
    rcases hs_if_s h with ⟨c1, h⟩ | ⟨c1, h⟩
    · rw [c1]
      refine hs_hand (pre := []) (suf := [(0, 10, 17, 15)]) (a := 0) (b := 10) (hp := 13) (ct := 13) C1 htab rfl (fun z hz => by cases hz) (by decide) (by decide) wl_5 (by decide +kernel) hSx (fun q => ?_)
      refine hs_astore (lv' := [(4, .ref q), (0, .ref (hs_q X 0)), (1, .int a1), (2, .int a2), (3, .ref (hs_q X 47))]) C1 dL_sender_13 (by decide) rfl ?_
      refine hs_iconst (v := 1) C1 dL_sender_15 (by decide) ?_
      exact hs_ireti C1 hf h dL_sender_16
    · skip
      rcases hs_if_s h with ⟨c1, h⟩ | ⟨c1, h⟩
      · rw [c1]
        refine hs_hand (pre := [(0, 10, 13, 13)]) (suf := []) (a := 0) (b := 10) (hp := 17) (ct := 15) C1 htab rfl (fun z hz => by
          simp only [List.mem_cons, List.not_mem_nil, or_false] at hz
          subst hz
          exact ⟨by decide, _, wl_5, by decide +kernel⟩) (by decide) (by decide) wl_6 (by decide +kernel) hSx (fun q => ?_)
        refine hs_astore (lv' := [(4, .ref q), (0, .ref (hs_q X 0)), (1, .int a1), (2, .int a2), (3, .ref (hs_q X 47))]) C1 dL_sender_17 (by decide) rfl ?_
        refine hs_iconst (v := 2) C1 dL_sender_19 (by decide) ?_
        exact hs_ireti C1 hf h dL_sender_20
      · skip
        cases h
theorem m_L_sender (a1 : Int32) (a2 : Int32) (S : hs_M) {r : Int32} {S' : hs_M} (h : f_L_sender a1 a2 S = some (r, S')) : hs_metw yL_sender cL_sender 5 [(0, 10, 13, 13), (0, 10, 17, 15)] 1 (fun q => [.ref (q 0), .int a1, .int a2, .ref (q 47)]) S r S' :=
  hs_mkW (res := (r, S')) (by decide +kernel) (fun q => Nat.le_of_ble_eq_true rfl) fun X C h0c hst hR htab hSx hf => t_L_sender C h0c hst hR htab hSx hf a1 a2 S h
set_option maxRecDepth 100000 in
set_option maxHeartbeats 4000000 in
theorem t_L_receiver {X : hs_T} (C : hs_C X 0 RL cL_receiver 5 2) (h0c : hs_nc1 X = 0 ∧ hs_nc2 X = 0) (hst : X.1.2.1.stackTraces = false) (hR : X.1.2.2.2.1 = hs_rmw 1) (htab : X.2.1.2.2.2.exceptionTable.toList = tableOf [(0, 10, 13, 13), (0, 10, 17, 15)]) (hSx : hs_Sx (hs_A X) (hs_s X) (hs_s X).heap) {res : Int32 × hs_M} (hf : hs_FI (hs_up X) cL_receiver res) (a1 : Int32) (a2 : Int32) (S : hs_M) (h : f_L_receiver a1 a2 S = some res) : hs_Z X 5 S [(0, .ref (hs_q X 0)), (1, .int a1), (2, .int a2), (3, .ref (hs_q X 47))] [] 0 := by
  unfold f_L_receiver at h
  obtain ⟨r, hc, h⟩ := hs_bd_s h
  refine hs_aload_n C dL_receiver_0 3 rfl rfl ?_
  refine hs_iconst (v := 0) C dL_receiver_1 (by decide) ?_
  refine hs_aload_n C dL_receiver_2 0 rfl rfl ?_
  refine hs_iload_n C dL_receiver_3 1 rfl rfl ?_
  refine hs_iload_n C dL_receiver_4 2 rfl rfl ?_
  refine hs_callVX (i := 0) (kd := 6) (na := 2) C wl_45 wl_46 wl_47 wl_3 wl_48 (by decide +kernel) (by decide) rfl (by decide) rfl (m_X6_receiver a1 a2 S hc) hst hSx hR h0c rfl rfl (by decide +kernel) rfl (by decide +kernel) (Nat.le_of_ble_eq_true rfl) dL_receiver_5 (fun C1 h0 => ?_) (fun C1 h0 => ?_)
  · rw [if_pos h0] at h
    show hs_Z _ _ _ _ (.int r.1.2 :: .int 0 :: .ref (hs_q X 47) :: []) _
    refine hs_out C1 dL_receiver_8 dL_receiver_9 ?_
    refine hs_goto (tgt := 21) C1 dL_receiver_10 (by decide) ?_
    refine hs_iconst (v := 0) C1 dL_receiver_21 (by decide) ?_
    exact hs_ireti C1 hf h dL_receiver_22
  · rw [if_neg h0] at h
    rcases hs_if_s h with ⟨c1, h⟩ | ⟨c1, h⟩
    · rw [c1]
      refine hs_hand (pre := []) (suf := [(0, 10, 17, 15)]) (a := 0) (b := 10) (hp := 13) (ct := 13) C1 htab rfl (fun z hz => by cases hz) (by decide) (by decide) wl_5 (by decide +kernel) hSx (fun q => ?_)
      refine hs_astore (lv' := [(4, .ref q), (0, .ref (hs_q X 0)), (1, .int a1), (2, .int a2), (3, .ref (hs_q X 47))]) C1 dL_receiver_13 (by decide) rfl ?_
      refine hs_iconst (v := 1) C1 dL_receiver_15 (by decide) ?_
      exact hs_ireti C1 hf h dL_receiver_16
    · skip
      rcases hs_if_s h with ⟨c1, h⟩ | ⟨c1, h⟩
      · rw [c1]
        refine hs_hand (pre := [(0, 10, 13, 13)]) (suf := []) (a := 0) (b := 10) (hp := 17) (ct := 15) C1 htab rfl (fun z hz => by
          simp only [List.mem_cons, List.not_mem_nil, or_false] at hz
          subst hz
          exact ⟨by decide, _, wl_5, by decide +kernel⟩) (by decide) (by decide) wl_6 (by decide +kernel) hSx (fun q => ?_)
        refine hs_astore (lv' := [(4, .ref q), (0, .ref (hs_q X 0)), (1, .int a1), (2, .int a2), (3, .ref (hs_q X 47))]) C1 dL_receiver_17 (by decide) rfl ?_
        refine hs_iconst (v := 2) C1 dL_receiver_19 (by decide) ?_
        exact hs_ireti C1 hf h dL_receiver_20
      · skip
        cases h
theorem m_L_receiver (a1 : Int32) (a2 : Int32) (S : hs_M) {r : Int32} {S' : hs_M} (h : f_L_receiver a1 a2 S = some (r, S')) : hs_metw yL_receiver cL_receiver 5 [(0, 10, 13, 13), (0, 10, 17, 15)] 1 (fun q => [.ref (q 0), .int a1, .int a2, .ref (q 47)]) S r S' :=
  hs_mkW (res := (r, S')) (by decide +kernel) (fun q => Nat.le_of_ble_eq_true rfl) fun X C h0c hst hR htab hSx hf => t_L_receiver C h0c hst hR htab hSx hf a1 a2 S h
set_option maxRecDepth 100000 in
set_option maxHeartbeats 4000000 in
theorem t_L_count {X : hs_T} (C : hs_C X 0 RL cL_count 4 1) (h0c : hs_nc1 X = 0 ∧ hs_nc2 X = 0) (hst : X.1.2.1.stackTraces = false) (hR : X.1.2.2.2.1 = hs_rmw 0) (htab : X.2.1.2.2.2.exceptionTable.toList = tableOf [(0, 9, 12, 15)]) (hSx : hs_Sx (hs_A X) (hs_s X) (hs_s X).heap) {res : Int32 × hs_M} (hf : hs_FI (hs_up X) cL_count res) (a1 : Int32) (S : hs_M) (h : f_L_count a1 S = some res) : hs_Z X 4 S [(0, .ref (hs_q X 0)), (1, .int a1), (2, .ref (hs_q X 47))] [] 0 := by
  unfold f_L_count at h
  obtain ⟨r, hc, h⟩ := hs_bd_s h
  refine hs_aload_n C dL_count_0 2 rfl rfl ?_
  refine hs_iconst (v := 0) C dL_count_1 (by decide) ?_
  refine hs_aload_n C dL_count_2 0 rfl rfl ?_
  refine hs_iload_n C dL_count_3 1 rfl rfl ?_
  refine hs_callVX (i := 0) (kd := 6) (na := 1) C wl_49 wl_50 wl_51 wl_3 wl_52 (by decide +kernel) (by decide) rfl (by decide) rfl (m_X6_count a1 S hc) hst hSx hR h0c rfl rfl (by decide +kernel) rfl (by decide +kernel) (Nat.le_of_ble_eq_true rfl) dL_count_4 (fun C1 h0 => ?_) (fun C1 h0 => ?_)
  · rw [if_pos h0] at h
    show hs_Z _ _ _ _ (.int r.1.2 :: .int 0 :: .ref (hs_q X 47) :: []) _
    refine hs_out C1 dL_count_7 dL_count_8 ?_
    refine hs_goto (tgt := 15) C1 dL_count_9 (by decide) ?_
    refine hs_iconst (v := 0) C1 dL_count_15 (by decide) ?_
    exact hs_ireti C1 hf h dL_count_16
  · rw [if_neg h0] at h
    rcases hs_if_s h with ⟨c1, h⟩ | ⟨c1, h⟩
    · rw [c1]
      refine hs_hand (pre := []) (suf := []) (a := 0) (b := 9) (hp := 12) (ct := 15) C1 htab rfl (fun z hz => by cases hz) (by decide) (by decide) wl_6 (by decide +kernel) hSx (fun q => ?_)
      refine hs_astore_n (lv' := [(3, .ref q), (0, .ref (hs_q X 0)), (1, .int a1), (2, .ref (hs_q X 47))]) C1 dL_count_12 rfl (by decide) rfl ?_
      refine hs_iconst (v := 1) C1 dL_count_13 (by decide) ?_
      exact hs_ireti C1 hf h dL_count_14
    · skip
      cases h
theorem m_L_count (a1 : Int32) (S : hs_M) {r : Int32} {S' : hs_M} (h : f_L_count a1 S = some (r, S')) : hs_metw yL_count cL_count 4 [(0, 9, 12, 15)] 0 (fun q => [.ref (q 0), .int a1, .ref (q 47)]) S r S' :=
  hs_mkW (res := (r, S')) (by decide +kernel) (fun q => Nat.le_of_ble_eq_true rfl) fun X C h0c hst hR htab hSx hf => t_L_count C h0c hst hR htab hSx hf a1 S h
