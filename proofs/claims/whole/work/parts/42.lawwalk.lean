theorem wq_0 : Cond.methodLink RL 64 yL_stride ∈ hs_tb := hs_w1 (k := 239) (by decide +kernel) (by decide +kernel)
theorem wq_1 : Cond.static yL_stride ∈ hs_tb := hs_w1 (k := 240) (by decide +kernel) (by decide +kernel)
theorem wq_2 : Cond.initialized RL ∈ hs_tb := hs_w1 (k := 0) (by decide +kernel) (by decide +kernel)
theorem wq_3 : Cond.codeWith yL_stride cL_stride 4 (some .int) [(0, 6, 9, 13), (0, 6, 12, 15)] ∈ hs_tb := hs_w1 (k := 241) (by decide +kernel) (by decide +kernel)
theorem wq_4 : Cond.methodLink RL 69 yX7_stride ∈ hs_tb := hs_w1 (k := 795) (by decide +kernel) (by decide +kernel)
theorem wq_5 : Cond.instanceMethod yX7_stride ∈ hs_tb := hs_w1 (k := 796) (by decide +kernel) (by decide +kernel)
theorem wq_6 : Cond.selects RX7 yX7_stride yX7_stride ∈ hs_tb := hs_w1 (k := 797) (by decide +kernel) (by decide +kernel)
theorem wq_7 : Cond.initialized RX7 ∈ hs_tb := hs_w1 (k := 8) (by decide +kernel) (by decide +kernel)
theorem wq_8 : Cond.code yX7_stride cX7_stride 3 none ∈ hs_tb := hs_w1 (k := 798) (by decide +kernel) (by decide +kernel)
theorem wq_9 : Cond.methodLink RL 70 yX7_thrown ∈ hs_tb := hs_w1 (k := 791) (by decide +kernel) (by decide +kernel)
theorem wq_10 : Cond.instanceMethod yX7_thrown ∈ hs_tb := hs_w1 (k := 792) (by decide +kernel) (by decide +kernel)
theorem wq_11 : Cond.selects RX7 yX7_thrown yX7_thrown ∈ hs_tb := hs_w1 (k := 793) (by decide +kernel) (by decide +kernel)
theorem wq_12 : Cond.code yX7_thrown cX7_thrown 1 (some .int) ∈ hs_tb := hs_w1 (k := 794) (by decide +kernel) (by decide +kernel)
theorem wq_13 : Cond.methodLink RL 74 yL_head ∈ hs_tb := hs_w1 (k := 368) (by decide +kernel) (by decide +kernel)
theorem wq_14 : Cond.static yL_head ∈ hs_tb := hs_w1 (k := 369) (by decide +kernel) (by decide +kernel)
theorem wq_15 : Cond.codeWith yL_head cL_head 5 (some .int) [(0, 7, 10, 15)] ∈ hs_tb := hs_w1 (k := 370) (by decide +kernel) (by decide +kernel)
theorem wq_16 : Cond.methodLink RL 77 yX7_head ∈ hs_tb := hs_w1 (k := 808) (by decide +kernel) (by decide +kernel)
theorem wq_17 : Cond.instanceMethod yX7_head ∈ hs_tb := hs_w1 (k := 809) (by decide +kernel) (by decide +kernel)
theorem wq_18 : Cond.selects RX7 yX7_head yX7_head ∈ hs_tb := hs_w1 (k := 810) (by decide +kernel) (by decide +kernel)
theorem wq_19 : Cond.code yX7_head cX7_head 4 none ∈ hs_tb := hs_w1 (k := 811) (by decide +kernel) (by decide +kernel)
theorem wq_20 : Cond.methodLink RL 78 yL_send ∈ hs_tb := hs_w1 (k := 375) (by decide +kernel) (by decide +kernel)
theorem wq_21 : Cond.static yL_send ∈ hs_tb := hs_w1 (k := 376) (by decide +kernel) (by decide +kernel)
theorem wq_22 : Cond.codeWith yL_send cL_send 7 (some .int) [(0, 14, 17, 13), (0, 14, 21, 15)] ∈ hs_tb := hs_w1 (k := 377) (by decide +kernel) (by decide +kernel)
theorem wq_23 : Cond.methodLink RL 81 yX7_send ∈ hs_tb := hs_w1 (k := 812) (by decide +kernel) (by decide +kernel)
theorem wq_24 : Cond.instanceMethod yX7_send ∈ hs_tb := hs_w1 (k := 813) (by decide +kernel) (by decide +kernel)
theorem wq_25 : Cond.selects RX7 yX7_send yX7_send ∈ hs_tb := hs_w1 (k := 814) (by decide +kernel) (by decide +kernel)
theorem wq_26 : Cond.code yX7_send cX7_send 11 (some .int) ∈ hs_tb := hs_w1 (k := 815) (by decide +kernel) (by decide +kernel)
theorem wq_27 : Cond.methodLink RL 82 yX6_line ∈ hs_tb := hs_w1 (k := 235) (by decide +kernel) (by decide +kernel)
theorem wq_28 : Cond.instanceMethod yX6_line ∈ hs_tb := hs_w1 (k := 236) (by decide +kernel) (by decide +kernel)
theorem wq_29 : Cond.selects RX6 yX6_line yX6_line ∈ hs_tb := hs_w1 (k := 237) (by decide +kernel) (by decide +kernel)
theorem wq_30 : Cond.initialized RX6 ∈ hs_tb := hs_w1 (k := 1) (by decide +kernel) (by decide +kernel)
theorem wq_31 : Cond.code yX6_line cX6_line 1 (some .int) ∈ hs_tb := hs_w1 (k := 238) (by decide +kernel) (by decide +kernel)
theorem wq_32 : Cond.methodLink RL 85 yX7_line ∈ hs_tb := hs_w1 (k := 856) (by decide +kernel) (by decide +kernel)
theorem wq_33 : Cond.instanceMethod yX7_line ∈ hs_tb := hs_w1 (k := 857) (by decide +kernel) (by decide +kernel)
theorem wq_34 : Cond.selects RX7 yX7_line yX7_line ∈ hs_tb := hs_w1 (k := 858) (by decide +kernel) (by decide +kernel)
theorem wq_35 : Cond.code yX7_line cX7_line 1 (some .int) ∈ hs_tb := hs_w1 (k := 859) (by decide +kernel) (by decide +kernel)
theorem wq_36 : Cond.methodLink RL 86 yL_size ∈ hs_tb := hs_w1 (k := 476) (by decide +kernel) (by decide +kernel)
theorem wq_37 : Cond.static yL_size ∈ hs_tb := hs_w1 (k := 477) (by decide +kernel) (by decide +kernel)
theorem wq_38 : Cond.codeWith yL_size cL_size 4 (some .int) [(0, 9, 12, 13)] ∈ hs_tb := hs_w1 (k := 478) (by decide +kernel) (by decide +kernel)
theorem wq_39 : Cond.methodLink RL 89 yX7_size ∈ hs_tb := hs_w1 (k := 860) (by decide +kernel) (by decide +kernel)
theorem wq_40 : Cond.instanceMethod yX7_size ∈ hs_tb := hs_w1 (k := 861) (by decide +kernel) (by decide +kernel)
theorem wq_41 : Cond.selects RX7 yX7_size yX7_size ∈ hs_tb := hs_w1 (k := 862) (by decide +kernel) (by decide +kernel)
theorem wq_42 : Cond.code yX7_size cX7_size 2 (some .int) ∈ hs_tb := hs_w1 (k := 863) (by decide +kernel) (by decide +kernel)
theorem wq_43 : Cond.methodLink RL 90 yL_byteAt ∈ hs_tb := hs_w1 (k := 487) (by decide +kernel) (by decide +kernel)
theorem wq_44 : Cond.static yL_byteAt ∈ hs_tb := hs_w1 (k := 488) (by decide +kernel) (by decide +kernel)
theorem wq_45 : Cond.codeWith yL_byteAt cL_byteAt 5 (some .int) [(0, 10, 13, 13)] ∈ hs_tb := hs_w1 (k := 489) (by decide +kernel) (by decide +kernel)
theorem wq_46 : Cond.methodLink RL 93 yX7_byteAt ∈ hs_tb := hs_w1 (k := 868) (by decide +kernel) (by decide +kernel)
theorem wq_47 : Cond.instanceMethod yX7_byteAt ∈ hs_tb := hs_w1 (k := 869) (by decide +kernel) (by decide +kernel)
theorem wq_48 : Cond.selects RX7 yX7_byteAt yX7_byteAt ∈ hs_tb := hs_w1 (k := 870) (by decide +kernel) (by decide +kernel)
theorem wq_49 : Cond.code yX7_byteAt cX7_byteAt 3 (some .int) ∈ hs_tb := hs_w1 (k := 871) (by decide +kernel) (by decide +kernel)
theorem wq_50 : Cond.methodLink RL 94 yL_spoil ∈ hs_tb := hs_w1 (k := 498) (by decide +kernel) (by decide +kernel)
theorem wq_51 : Cond.static yL_spoil ∈ hs_tb := hs_w1 (k := 499) (by decide +kernel) (by decide +kernel)
theorem wq_52 : Cond.codeWith yL_spoil cL_spoil 5 (some .int) [(0, 7, 10, 13), (0, 7, 14, 15)] ∈ hs_tb := hs_w1 (k := 500) (by decide +kernel) (by decide +kernel)
theorem wq_53 : Cond.methodLink RL 97 yX7_spoil ∈ hs_tb := hs_w1 (k := 876) (by decide +kernel) (by decide +kernel)
theorem wq_54 : Cond.instanceMethod yX7_spoil ∈ hs_tb := hs_w1 (k := 877) (by decide +kernel) (by decide +kernel)
theorem wq_55 : Cond.selects RX7 yX7_spoil yX7_spoil ∈ hs_tb := hs_w1 (k := 878) (by decide +kernel) (by decide +kernel)
theorem wq_56 : Cond.code yX7_spoil cX7_spoil 4 none ∈ hs_tb := hs_w1 (k := 879) (by decide +kernel) (by decide +kernel)
theorem wq_57 : Cond.methodLink RL 98 yL_lose ∈ hs_tb := hs_w1 (k := 505) (by decide +kernel) (by decide +kernel)
theorem wq_58 : Cond.static yL_lose ∈ hs_tb := hs_w1 (k := 506) (by decide +kernel) (by decide +kernel)
theorem wq_59 : Cond.codeWith yL_lose cL_lose 3 (some .int) [(0, 5, 8, 13)] ∈ hs_tb := hs_w1 (k := 507) (by decide +kernel) (by decide +kernel)
theorem wq_60 : Cond.methodLink RL 101 yX7_lose ∈ hs_tb := hs_w1 (k := 880) (by decide +kernel) (by decide +kernel)
theorem wq_61 : Cond.instanceMethod yX7_lose ∈ hs_tb := hs_w1 (k := 881) (by decide +kernel) (by decide +kernel)
theorem wq_62 : Cond.selects RX7 yX7_lose yX7_lose ∈ hs_tb := hs_w1 (k := 882) (by decide +kernel) (by decide +kernel)
theorem wq_63 : Cond.code yX7_lose cX7_lose 2 none ∈ hs_tb := hs_w1 (k := 883) (by decide +kernel) (by decide +kernel)
theorem wq_64 : Cond.methodLink RL 102 yL_deliver ∈ hs_tb := hs_w1 (k := 516) (by decide +kernel) (by decide +kernel)
theorem wq_65 : Cond.static yL_deliver ∈ hs_tb := hs_w1 (k := 517) (by decide +kernel) (by decide +kernel)
theorem wq_66 : Cond.codeWith yL_deliver cL_deliver 4 (some .int) [(0, 9, 12, 13), (0, 9, 15, 15), (0, 9, 18, 44), (0, 9, 21, 46)] ∈ hs_tb := hs_w1 (k := 518) (by decide +kernel) (by decide +kernel)
theorem wq_67 : Cond.methodLink RL 104 yX7_deliver ∈ hs_tb := hs_w1 (k := 888) (by decide +kernel) (by decide +kernel)
theorem wq_68 : Cond.instanceMethod yX7_deliver ∈ hs_tb := hs_w1 (k := 889) (by decide +kernel) (by decide +kernel)
theorem wq_69 : Cond.selects RX7 yX7_deliver yX7_deliver ∈ hs_tb := hs_w1 (k := 890) (by decide +kernel) (by decide +kernel)
theorem wq_70 : Cond.code yX7_deliver cX7_deliver 6 (some .int) ∈ hs_tb := hs_w1 (k := 891) (by decide +kernel) (by decide +kernel)
theorem wq_71 : Cond.methodLink RL 105 yL_made ∈ hs_tb := hs_w1 (k := 655) (by decide +kernel) (by decide +kernel)
theorem wq_72 : Cond.static yL_made ∈ hs_tb := hs_w1 (k := 656) (by decide +kernel) (by decide +kernel)
theorem wq_73 : Cond.codeWith yL_made cL_made 4 (some .int) [(0, 9, 12, 13)] ∈ hs_tb := hs_w1 (k := 657) (by decide +kernel) (by decide +kernel)
theorem wq_74 : Cond.methodLink RL 107 yX7_made ∈ hs_tb := hs_w1 (k := 932) (by decide +kernel) (by decide +kernel)
theorem wq_75 : Cond.instanceMethod yX7_made ∈ hs_tb := hs_w1 (k := 933) (by decide +kernel) (by decide +kernel)
theorem wq_76 : Cond.selects RX7 yX7_made yX7_made ∈ hs_tb := hs_w1 (k := 934) (by decide +kernel) (by decide +kernel)
theorem wq_77 : Cond.code yX7_made cX7_made 2 (some .int) ∈ hs_tb := hs_w1 (k := 935) (by decide +kernel) (by decide +kernel)
theorem wq_78 : Cond.methodLink RL 108 yL_sender ∈ hs_tb := hs_w1 (k := 663) (by decide +kernel) (by decide +kernel)
theorem wq_79 : Cond.static yL_sender ∈ hs_tb := hs_w1 (k := 664) (by decide +kernel) (by decide +kernel)
theorem wq_80 : Cond.codeWith yL_sender cL_sender 5 (some .int) [(0, 10, 13, 13), (0, 10, 17, 15)] ∈ hs_tb := hs_w1 (k := 665) (by decide +kernel) (by decide +kernel)
theorem wq_81 : Cond.methodLink RL 110 yX7_sender ∈ hs_tb := hs_w1 (k := 936) (by decide +kernel) (by decide +kernel)
theorem wq_82 : Cond.instanceMethod yX7_sender ∈ hs_tb := hs_w1 (k := 937) (by decide +kernel) (by decide +kernel)
theorem wq_83 : Cond.selects RX7 yX7_sender yX7_sender ∈ hs_tb := hs_w1 (k := 938) (by decide +kernel) (by decide +kernel)
theorem wq_84 : Cond.code yX7_sender cX7_sender 3 (some .int) ∈ hs_tb := hs_w1 (k := 939) (by decide +kernel) (by decide +kernel)
theorem wq_85 : Cond.methodLink RL 111 yL_receiver ∈ hs_tb := hs_w1 (k := 670) (by decide +kernel) (by decide +kernel)
theorem wq_86 : Cond.static yL_receiver ∈ hs_tb := hs_w1 (k := 671) (by decide +kernel) (by decide +kernel)
theorem wq_87 : Cond.codeWith yL_receiver cL_receiver 5 (some .int) [(0, 10, 13, 13), (0, 10, 17, 15)] ∈ hs_tb := hs_w1 (k := 672) (by decide +kernel) (by decide +kernel)
theorem wq_88 : Cond.methodLink RL 113 yX7_receiver ∈ hs_tb := hs_w1 (k := 940) (by decide +kernel) (by decide +kernel)
theorem wq_89 : Cond.instanceMethod yX7_receiver ∈ hs_tb := hs_w1 (k := 941) (by decide +kernel) (by decide +kernel)
theorem wq_90 : Cond.selects RX7 yX7_receiver yX7_receiver ∈ hs_tb := hs_w1 (k := 942) (by decide +kernel) (by decide +kernel)
theorem wq_91 : Cond.code yX7_receiver cX7_receiver 3 (some .int) ∈ hs_tb := hs_w1 (k := 943) (by decide +kernel) (by decide +kernel)
theorem wq_92 : Cond.methodLink RL 114 yL_count ∈ hs_tb := hs_w1 (k := 677) (by decide +kernel) (by decide +kernel)
theorem wq_93 : Cond.static yL_count ∈ hs_tb := hs_w1 (k := 678) (by decide +kernel) (by decide +kernel)
theorem wq_94 : Cond.codeWith yL_count cL_count 4 (some .int) [(0, 9, 12, 15)] ∈ hs_tb := hs_w1 (k := 679) (by decide +kernel) (by decide +kernel)
theorem wq_95 : Cond.methodLink RL 116 yX7_count ∈ hs_tb := hs_w1 (k := 944) (by decide +kernel) (by decide +kernel)
theorem wq_96 : Cond.instanceMethod yX7_count ∈ hs_tb := hs_w1 (k := 945) (by decide +kernel) (by decide +kernel)
theorem wq_97 : Cond.selects RX7 yX7_count yX7_count ∈ hs_tb := hs_w1 (k := 946) (by decide +kernel) (by decide +kernel)
theorem wq_98 : Cond.code yX7_count cX7_count 2 (some .int) ∈ hs_tb := hs_w1 (k := 947) (by decide +kernel) (by decide +kernel)
/-- a call on both sides: the same exception's number, and the worlds still agree -/
def hs_sim1 (R Rn : hs_M → hs_M → Prop) (fL : hs_M → Option (Int32 × hs_M)) (fM : hs_M → Option hs_M) : Prop := ∀ Sc Sm : hs_M, R Sc Sm → ∃ (k : Int32) (Sc' Sm' Sm2 : hs_M), fL Sc = some (k, Sc') ∧ fM Sm = some Sm' ∧ f_X7_thrown Sm' = some (k, Sm2) ∧ Rn Sc' Sm2
/-- and the same answer, where there is one -/
def hs_sim2 (R Rn : hs_M → hs_M → Prop) (fL fM : hs_M → Option (Int32 × hs_M)) : Prop := ∀ Sc Sm : hs_M, R Sc Sm → ∃ (k v : Int32) (Sc' Sm' Sm2 : hs_M), fL Sc = some (k, Sc') ∧ fM Sm = some (v, Sm') ∧ f_X7_thrown Sm' = some (k, Sm2) ∧ (k = 0 → Sc' 47 0 = v) ∧ Rn Sc' Sm2
def hs_sim3 (R Rn : hs_M → hs_M → Prop) (fL fM : hs_M → Option (Int32 × hs_M)) : Prop := ∀ Sc Sm : hs_M, R Sc Sm → ∃ (v : Int32) (Sc' Sm' : hs_M), fL Sc = some (v, Sc') ∧ fM Sm = some (v, Sm') ∧ Rn Sc' Sm'
def hs_Sim (R Rn : hs_M → hs_M → Prop) : Prop := (∀ Sc Sm, R Sc Sm → Rn Sc Sm) ∧ (∀ a0 a1 : Int32, hs_sim1 R Rn (f_L_stride a0 a1) (f_X7_stride a0 a1)) ∧ (∀ a0 a1 a2 : Int32, (a2 = 0 ∨ a2 = 1) → hs_sim1 R Rn (f_L_head a0 a1 a2) (f_X7_head a0 a1 a2)) ∧ (∀ a0 a1 a2 a3 : Int32, hs_sim2 R Rn (f_L_send a0 a1 a2 a3) (f_X7_send a0 a1 a2 a3)) ∧ hs_sim3 R Rn f_X6_line f_X7_line ∧ (∀ a0 : Int32, hs_sim2 R Rn (f_L_size a0) (f_X7_size a0)) ∧ (∀ a0 a1 : Int32, hs_sim2 R Rn (f_L_byteAt a0 a1) (f_X7_byteAt a0 a1)) ∧ (∀ a0 a1 a2 : Int32, hs_sim1 R Rn (f_L_spoil a0 a1 a2) (f_X7_spoil a0 a1 a2)) ∧ (∀ a0 : Int32, hs_sim1 R Rn (f_L_lose a0) (f_X7_lose a0)) ∧ (∀ a0 : Int32, hs_sim2 R Rn (f_L_deliver a0) (f_X7_deliver a0)) ∧ (∀ a0 : Int32, hs_sim2 R Rn (f_L_made a0) (f_X7_made a0)) ∧ (∀ a0 a1 : Int32, hs_sim2 R Rn (f_L_sender a0 a1) (f_X7_sender a0 a1)) ∧ (∀ a0 a1 : Int32, hs_sim2 R Rn (f_L_receiver a0 a1) (f_X7_receiver a0 a1)) ∧ (∀ a0 : Int32, hs_sim2 R Rn (f_L_count a0) (f_X7_count a0))
set_option maxRecDepth 100000 in
set_option maxHeartbeats 8000000 in
theorem law_step {Y : hs_Y} (C : hs_CL Y) {R Rn : hs_M → hs_M → Prop} (hSim : hs_Sim R Rn) (t : Nat) (ht : 5 * t + 5 ≤ hy_L Y) (Sc Sm : hs_M) (hR : R Sc Sm)
    (hd857 : ∀ (Sc Sm : hs_M) (k n : Nat), k ≤ 76 + (t + 1) → n ≤ 714 + 6 * (t + 1) → Rn Sc Sm → hs_ZL Y Sc Sm [(4, .int (nI (5 * t))), (3, .ref (hy_q Y 47)), (2, .ref (hy_q Y 100)), (1, .ref (hy_q Y 0)), (0, .ref (hy_b Y))] [] 857 k n) : hs_ZL Y Sc Sm [(4, .int (nI (5 * t))), (3, .ref (hy_q Y 47)), (2, .ref (hy_q Y 100)), (1, .ref (hy_q Y 0)), (0, .ref (hy_b Y))] [] 32 (76 + t) (714 + 6 * t) := by
  obtain ⟨sR, s0, s1, s2, s3, s4, s5, s6, s7, s8, s9, s10, s11, s12⟩ := hSim
  have hL320 : hy_L Y ≤ 320 := C.2.2.2.2.2.2.2.2.2.2.2.2.1
  refine hl_aload_n C dL_law_32 4 rfl rfl ?_
  refine hl_iload C dL_law_33 0 rfl ?_
  refine hl_sld (j := 5 * t) C (by omega) dL_law_35 ?_
  refine hl_bipush (v := 15) C dL_law_36 (by decide) ?_
  refine hl_iand C dL_law_38 ?_
  generalize hy_xs Y (5 * t) &&& 15 = x0
  by_cases c0 : x0 = 0
  · refine hl_tableIn (off := 65) (tgt := 104) C dL_law_39 (by rw [c0]; decide) (by rw [c0]; decide) (by rw [c0]; rfl) (by decide) ?_
    obtain ⟨k, Sc', Sm', Sm2, e1, e2, e3, hR'⟩ := s0 (hy_xs Y (5 * t + 1)) (hy_xs Y (5 * t + 2)) Sc Sm hR
    refine hl_aload_n C dL_law_104 3 rfl rfl ?_
    refine hl_rd (t := 5 * t) (dd := 1) C (by decide) (p0 := 4) (p4 := 0) rfl rfl (by omega) dL_law_105 dL_law_106 dL_law_108 dL_law_109 dL_law_110 ?_
    refine hl_rd (t := 5 * t) (dd := 2) C (by decide) (p0 := 4) (p4 := 0) rfl rfl (by omega) dL_law_111 dL_law_112 dL_law_114 dL_law_115 dL_law_116 ?_
    refine hl_callW (na := 3) C wq_0 wq_1 wq_2 wq_3 (by decide +kernel) (by decide +kernel) (by decide) (by decide) (m_L_stride (hy_xs Y (5 * t + 1)) (hy_xs Y (5 * t + 2)) Sc e1) rfl rfl rfl (Nat.le_of_ble_eq_true rfl) dL_law_117 ⟨by omega, by omega⟩ ?_
    refine hl_istore (lv' := [(5, .int k), (4, .int (nI (5 * t))), (3, .ref (hy_q Y 47)), (2, .ref (hy_q Y 100)), (1, .ref (hy_q Y 0)), (0, .ref (hy_b Y))]) C dL_law_120 (by decide) rfl ?_
    refine hl_aload_n C dL_law_122 3 rfl rfl ?_
    refine hl_rd (t := 5 * t) (dd := 1) C (by decide) (p0 := 5) (p4 := 1) rfl rfl (by omega) dL_law_123 dL_law_124 dL_law_126 dL_law_127 dL_law_128 ?_
    refine hl_rd (t := 5 * t) (dd := 2) C (by decide) (p0 := 5) (p4 := 1) rfl rfl (by omega) dL_law_129 dL_law_130 dL_law_132 dL_law_133 dL_law_134 ?_
    refine hl_callO (wd := 1) (kd := 7) (i := 100) (na := 2) (r := hs_ws (hy_q Y) (hy_cy Y) 0 Sc') C (by decide) wq_4 wq_5 wq_6 wq_7 wq_8 (by decide +kernel) (by decide +kernel) (by decide) (by decide) rfl (by decide) rfl (by decide +kernel) (m_X7_stride (hy_xs Y (5 * t + 1)) (hy_xs Y (5 * t + 2)) Sm e2) List.perm_append_comm List.perm_append_comm rfl rfl rfl (Nat.le_of_ble_eq_true rfl) dL_law_135 ⟨by omega, by omega⟩ ?_
    show hs_ZL Y _ _ _ [] _ _ _
    refine hl_aload_n C dL_law_138 3 rfl rfl ?_
    refine hl_callO (wd := 1) (kd := 7) (i := 100) (na := 0) (r := hs_ws (hy_q Y) (hy_cy Y) 0 Sc') C (by decide) wq_9 wq_10 wq_11 wq_7 wq_12 (by decide +kernel) (by decide +kernel) (by decide) (by decide) rfl (by decide) rfl (by decide +kernel) (m_X7_thrown Sm' e3) List.perm_append_comm List.perm_append_comm rfl rfl rfl (Nat.le_of_ble_eq_true rfl) dL_law_139 ⟨by omega, by omega⟩ ?_
    show hs_ZL Y _ _ _ [.int k] _ _ _
    refine hl_iload C dL_law_142 0 rfl ?_
    refine hl_eqT (tgt := 149) C rfl dL_law_144 (by decide) ?_
    refine hl_goto (tgt := 857) C dL_law_149 (by decide) ?_
    refine hl_sub [1, 2, 3, 4, 5] rfl ?_
    exact hd857 Sc' Sm2 _ _ (by omega) (by omega) hR'
  · skip
    by_cases c1 : x0 = 1
    · refine hl_tableIn (off := 113) (tgt := 152) C dL_law_39 (by rw [c1]; decide) (by rw [c1]; decide) (by rw [c1]; rfl) (by decide) ?_
      by_cases hz : hy_xs Y (5 * t + 3) = 0
      · obtain ⟨k, Sc', Sm', Sm2, e1, e2, e3, hR'⟩ := s1 (hy_xs Y (5 * t + 1)) (hy_xs Y (5 * t + 2)) 0 (by decide) Sc Sm hR
        refine hl_aload_n C dL_law_152 3 rfl rfl ?_
        refine hl_rd (t := 5 * t) (dd := 1) C (by decide) (p0 := 4) (p4 := 0) rfl rfl (by omega) dL_law_153 dL_law_154 dL_law_156 dL_law_157 dL_law_158 ?_
        refine hl_rd (t := 5 * t) (dd := 2) C (by decide) (p0 := 4) (p4 := 0) rfl rfl (by omega) dL_law_159 dL_law_160 dL_law_162 dL_law_163 dL_law_164 ?_
        refine hl_rd (t := 5 * t) (dd := 3) C (by decide) (p0 := 4) (p4 := 0) rfl rfl (by omega) dL_law_165 dL_law_166 dL_law_168 dL_law_169 dL_law_170 ?_
        refine hl_ifeq (tgt := 178) C dL_law_171 (by decide) (fun _ => ?_) (fun c9 => absurd hz c9)
        refine hl_iconst (v := 0) C dL_law_178 (by decide) ?_
        refine hl_callW (na := 4) C wq_13 wq_14 wq_2 wq_15 (by decide +kernel) (by decide +kernel) (by decide) (by decide) (m_L_head (hy_xs Y (5 * t + 1)) (hy_xs Y (5 * t + 2)) 0 Sc e1) rfl rfl rfl (Nat.le_of_ble_eq_true rfl) dL_law_179 ⟨by omega, by omega⟩ ?_
        refine hl_istore (lv' := [(5, .int k), (4, .int (nI (5 * t))), (3, .ref (hy_q Y 47)), (2, .ref (hy_q Y 100)), (1, .ref (hy_q Y 0)), (0, .ref (hy_b Y))]) C dL_law_182 (by decide) rfl ?_
        refine hl_aload_n C dL_law_184 3 rfl rfl ?_
        refine hl_rd (t := 5 * t) (dd := 1) C (by decide) (p0 := 5) (p4 := 1) rfl rfl (by omega) dL_law_185 dL_law_186 dL_law_188 dL_law_189 dL_law_190 ?_
        refine hl_rd (t := 5 * t) (dd := 2) C (by decide) (p0 := 5) (p4 := 1) rfl rfl (by omega) dL_law_191 dL_law_192 dL_law_194 dL_law_195 dL_law_196 ?_
        refine hl_rd (t := 5 * t) (dd := 3) C (by decide) (p0 := 5) (p4 := 1) rfl rfl (by omega) dL_law_197 dL_law_198 dL_law_200 dL_law_201 dL_law_202 ?_
        refine hl_ifeq (tgt := 210) C dL_law_203 (by decide) (fun _ => ?_) (fun c9 => absurd hz c9)
        refine hl_iconst (v := 0) C dL_law_210 (by decide) ?_
        refine hl_callO (wd := 1) (kd := 7) (i := 100) (na := 3) (r := hs_ws (hy_q Y) (hy_cy Y) 0 Sc') C (by decide) wq_16 wq_17 wq_18 wq_7 wq_19 (by decide +kernel) (by decide +kernel) (by decide) (by decide) rfl (by decide) rfl (by decide +kernel) (m_X7_head (hy_xs Y (5 * t + 1)) (hy_xs Y (5 * t + 2)) 0 Sm e2) List.perm_append_comm List.perm_append_comm rfl rfl rfl (Nat.le_of_ble_eq_true rfl) dL_law_211 ⟨by omega, by omega⟩ ?_
        show hs_ZL Y _ _ _ [] _ _ _
        refine hl_aload_n C dL_law_214 3 rfl rfl ?_
        refine hl_callO (wd := 1) (kd := 7) (i := 100) (na := 0) (r := hs_ws (hy_q Y) (hy_cy Y) 0 Sc') C (by decide) wq_9 wq_10 wq_11 wq_7 wq_12 (by decide +kernel) (by decide +kernel) (by decide) (by decide) rfl (by decide) rfl (by decide +kernel) (m_X7_thrown Sm' e3) List.perm_append_comm List.perm_append_comm rfl rfl rfl (Nat.le_of_ble_eq_true rfl) dL_law_215 ⟨by omega, by omega⟩ ?_
        show hs_ZL Y _ _ _ [.int k] _ _ _
        refine hl_iload C dL_law_218 0 rfl ?_
        refine hl_eqT (tgt := 225) C rfl dL_law_220 (by decide) ?_
        refine hl_goto (tgt := 857) C dL_law_225 (by decide) ?_
        refine hl_sub [1, 2, 3, 4, 5] rfl ?_
        exact hd857 Sc' Sm2 _ _ (by omega) (by omega) hR'
      · obtain ⟨k, Sc', Sm', Sm2, e1, e2, e3, hR'⟩ := s1 (hy_xs Y (5 * t + 1)) (hy_xs Y (5 * t + 2)) 1 (by decide) Sc Sm hR
        refine hl_aload_n C dL_law_152 3 rfl rfl ?_
        refine hl_rd (t := 5 * t) (dd := 1) C (by decide) (p0 := 4) (p4 := 0) rfl rfl (by omega) dL_law_153 dL_law_154 dL_law_156 dL_law_157 dL_law_158 ?_
        refine hl_rd (t := 5 * t) (dd := 2) C (by decide) (p0 := 4) (p4 := 0) rfl rfl (by omega) dL_law_159 dL_law_160 dL_law_162 dL_law_163 dL_law_164 ?_
        refine hl_rd (t := 5 * t) (dd := 3) C (by decide) (p0 := 4) (p4 := 0) rfl rfl (by omega) dL_law_165 dL_law_166 dL_law_168 dL_law_169 dL_law_170 ?_
        refine hl_ifeq (tgt := 178) C dL_law_171 (by decide) (fun c9 => absurd c9 hz) (fun _ => ?_)
        refine hl_iconst (v := 1) C dL_law_174 (by decide) ?_
        refine hl_goto (tgt := 179) C dL_law_175 (by decide) ?_
        refine hl_callW (na := 4) C wq_13 wq_14 wq_2 wq_15 (by decide +kernel) (by decide +kernel) (by decide) (by decide) (m_L_head (hy_xs Y (5 * t + 1)) (hy_xs Y (5 * t + 2)) 1 Sc e1) rfl rfl rfl (Nat.le_of_ble_eq_true rfl) dL_law_179 ⟨by omega, by omega⟩ ?_
        refine hl_istore (lv' := [(5, .int k), (4, .int (nI (5 * t))), (3, .ref (hy_q Y 47)), (2, .ref (hy_q Y 100)), (1, .ref (hy_q Y 0)), (0, .ref (hy_b Y))]) C dL_law_182 (by decide) rfl ?_
        refine hl_aload_n C dL_law_184 3 rfl rfl ?_
        refine hl_rd (t := 5 * t) (dd := 1) C (by decide) (p0 := 5) (p4 := 1) rfl rfl (by omega) dL_law_185 dL_law_186 dL_law_188 dL_law_189 dL_law_190 ?_
        refine hl_rd (t := 5 * t) (dd := 2) C (by decide) (p0 := 5) (p4 := 1) rfl rfl (by omega) dL_law_191 dL_law_192 dL_law_194 dL_law_195 dL_law_196 ?_
        refine hl_rd (t := 5 * t) (dd := 3) C (by decide) (p0 := 5) (p4 := 1) rfl rfl (by omega) dL_law_197 dL_law_198 dL_law_200 dL_law_201 dL_law_202 ?_
        refine hl_ifeq (tgt := 210) C dL_law_203 (by decide) (fun c9 => absurd c9 hz) (fun _ => ?_)
        refine hl_iconst (v := 1) C dL_law_206 (by decide) ?_
        refine hl_goto (tgt := 211) C dL_law_207 (by decide) ?_
        refine hl_callO (wd := 1) (kd := 7) (i := 100) (na := 3) (r := hs_ws (hy_q Y) (hy_cy Y) 0 Sc') C (by decide) wq_16 wq_17 wq_18 wq_7 wq_19 (by decide +kernel) (by decide +kernel) (by decide) (by decide) rfl (by decide) rfl (by decide +kernel) (m_X7_head (hy_xs Y (5 * t + 1)) (hy_xs Y (5 * t + 2)) 1 Sm e2) List.perm_append_comm List.perm_append_comm rfl rfl rfl (Nat.le_of_ble_eq_true rfl) dL_law_211 ⟨by omega, by omega⟩ ?_
        show hs_ZL Y _ _ _ [] _ _ _
        refine hl_aload_n C dL_law_214 3 rfl rfl ?_
        refine hl_callO (wd := 1) (kd := 7) (i := 100) (na := 0) (r := hs_ws (hy_q Y) (hy_cy Y) 0 Sc') C (by decide) wq_9 wq_10 wq_11 wq_7 wq_12 (by decide +kernel) (by decide +kernel) (by decide) (by decide) rfl (by decide) rfl (by decide +kernel) (m_X7_thrown Sm' e3) List.perm_append_comm List.perm_append_comm rfl rfl rfl (Nat.le_of_ble_eq_true rfl) dL_law_215 ⟨by omega, by omega⟩ ?_
        show hs_ZL Y _ _ _ [.int k] _ _ _
        refine hl_iload C dL_law_218 0 rfl ?_
        refine hl_eqT (tgt := 225) C rfl dL_law_220 (by decide) ?_
        refine hl_goto (tgt := 857) C dL_law_225 (by decide) ?_
        refine hl_sub [1, 2, 3, 4, 5] rfl ?_
        exact hd857 Sc' Sm2 _ _ (by omega) (by omega) hR'
    · skip
      by_cases c2 : x0 = 2
      · refine hl_tableIn (off := 189) (tgt := 228) C dL_law_39 (by rw [c2]; decide) (by rw [c2]; decide) (by rw [c2]; rfl) (by decide) ?_
        obtain ⟨k, v, Sc', Sm', Sm2, e1, e2, e3, hv, hR'⟩ := s2 (hy_xs Y (5 * t + 1)) (hy_xs Y (5 * t + 2)) (hy_xs Y (5 * t + 3)) (hy_xs Y (5 * t + 4)) Sc Sm hR
        refine hl_aload_n C dL_law_228 3 rfl rfl ?_
        refine hl_rd (t := 5 * t) (dd := 1) C (by decide) (p0 := 4) (p4 := 0) rfl rfl (by omega) dL_law_229 dL_law_230 dL_law_232 dL_law_233 dL_law_234 ?_
        refine hl_rd (t := 5 * t) (dd := 2) C (by decide) (p0 := 4) (p4 := 0) rfl rfl (by omega) dL_law_235 dL_law_236 dL_law_238 dL_law_239 dL_law_240 ?_
        refine hl_rd (t := 5 * t) (dd := 3) C (by decide) (p0 := 4) (p4 := 0) rfl rfl (by omega) dL_law_241 dL_law_242 dL_law_244 dL_law_245 dL_law_246 ?_
        refine hl_rd (t := 5 * t) (dd := 4) C (by decide) (p0 := 4) (p4 := 0) rfl rfl (by omega) dL_law_247 dL_law_248 dL_law_250 dL_law_251 dL_law_252 ?_
        refine hl_aload_n C dL_law_253 1 rfl rfl ?_
        refine hl_callW (na := 6) C wq_20 wq_21 wq_2 wq_22 (by decide +kernel) (by decide +kernel) (by decide) (by decide) (m_L_send (hy_xs Y (5 * t + 1)) (hy_xs Y (5 * t + 2)) (hy_xs Y (5 * t + 3)) (hy_xs Y (5 * t + 4)) Sc e1) rfl rfl rfl (Nat.le_of_ble_eq_true rfl) dL_law_254 ⟨by omega, by omega⟩ ?_
        refine hl_istore (lv' := [(5, .int k), (4, .int (nI (5 * t))), (3, .ref (hy_q Y 47)), (2, .ref (hy_q Y 100)), (1, .ref (hy_q Y 0)), (0, .ref (hy_b Y))]) C dL_law_257 (by decide) rfl ?_
        refine hl_aload_n C dL_law_259 3 rfl rfl ?_
        refine hl_rd (t := 5 * t) (dd := 1) C (by decide) (p0 := 5) (p4 := 1) rfl rfl (by omega) dL_law_260 dL_law_261 dL_law_263 dL_law_264 dL_law_265 ?_
        refine hl_rd (t := 5 * t) (dd := 2) C (by decide) (p0 := 5) (p4 := 1) rfl rfl (by omega) dL_law_266 dL_law_267 dL_law_269 dL_law_270 dL_law_271 ?_
        refine hl_rd (t := 5 * t) (dd := 3) C (by decide) (p0 := 5) (p4 := 1) rfl rfl (by omega) dL_law_272 dL_law_273 dL_law_275 dL_law_276 dL_law_277 ?_
        refine hl_rd (t := 5 * t) (dd := 4) C (by decide) (p0 := 5) (p4 := 1) rfl rfl (by omega) dL_law_278 dL_law_279 dL_law_281 dL_law_282 dL_law_283 ?_
        refine hl_callO (wd := 1) (kd := 7) (i := 100) (na := 4) (r := hs_ws (hy_q Y) (hy_cy Y) 0 Sc') C (by decide) wq_23 wq_24 wq_25 wq_7 wq_26 (by decide +kernel) (by decide +kernel) (by decide) (by decide) rfl (by decide) rfl (by decide +kernel) (m_X7_send (hy_xs Y (5 * t + 1)) (hy_xs Y (5 * t + 2)) (hy_xs Y (5 * t + 3)) (hy_xs Y (5 * t + 4)) Sm e2) List.perm_append_comm List.perm_append_comm rfl rfl rfl (Nat.le_of_ble_eq_true rfl) dL_law_284 ⟨by omega, by omega⟩ ?_
        show hs_ZL Y _ _ _ [.int v] _ _ _
        refine hl_istore (lv' := [(6, .int v), (5, .int k), (4, .int (nI (5 * t))), (3, .ref (hy_q Y 47)), (2, .ref (hy_q Y 100)), (1, .ref (hy_q Y 0)), (0, .ref (hy_b Y))]) C dL_law_287 (by decide) rfl ?_
        refine hl_aload_n C dL_law_289 4 rfl rfl ?_
        refine hl_callO (wd := 1) (kd := 7) (i := 100) (na := 0) (r := hs_ws (hy_q Y) (hy_cy Y) 0 Sc') C (by decide) wq_9 wq_10 wq_11 wq_7 wq_12 (by decide +kernel) (by decide +kernel) (by decide) (by decide) rfl (by decide) rfl (by decide +kernel) (m_X7_thrown Sm' e3) List.perm_append_comm List.perm_append_comm rfl rfl rfl (Nat.le_of_ble_eq_true rfl) dL_law_290 ⟨by omega, by omega⟩ ?_
        show hs_ZL Y _ _ _ [.int k] _ _ _
        refine hl_iload C dL_law_293 1 rfl ?_
        refine hl_eqT (tgt := 300) C rfl dL_law_295 (by decide) ?_
        refine hl_iload C dL_law_300 1 rfl ?_
        refine hl_ifne (tgt := 317) C dL_law_302 (by decide) (fun h0 => ?_) (fun h0 => ?_)
        · skip
          refine hl_goto (tgt := 857) C dL_law_317 (by decide) ?_
          refine hl_sub [2, 3, 4, 5, 6] rfl ?_
          exact hd857 Sc' Sm2 _ _ (by omega) (by omega) hR'
        · skip
          refine hl_cmp (p3 := 3) (p6 := 0) (tgt := 317) C (hv h0) rfl rfl dL_law_305 dL_law_306 dL_law_307 dL_law_308 dL_law_310 dL_law_311 dL_law_312 (by decide) ?_
          refine hl_goto (tgt := 857) C dL_law_317 (by decide) ?_
          refine hl_sub [2, 3, 4, 5, 6] rfl ?_
          exact hd857 Sc' Sm2 _ _ (by omega) (by omega) hR'
      · skip
        by_cases c3 : x0 = 3
        · refine hl_tableIn (off := 281) (tgt := 320) C dL_law_39 (by rw [c3]; decide) (by rw [c3]; decide) (by rw [c3]; rfl) (by decide) ?_
          obtain ⟨k, Sc', Sm', e1, e2, hR'⟩ := s3 Sc Sm hR
          refine hl_aload_n C dL_law_320 3 rfl rfl ?_
          refine hl_callO (wd := 0) (kd := 6) (i := 0) (na := 0) (r := hs_ws (hy_q Y) (hy_cy Y) 1 Sm) C (by decide) wq_27 wq_28 wq_29 wq_30 wq_31 (by decide +kernel) (by decide +kernel) (by decide) (by decide) rfl (by decide) rfl (by decide +kernel) (m_X6_line Sc e1) (List.Perm.refl _) (List.Perm.refl _) rfl rfl rfl (Nat.le_of_ble_eq_true rfl) dL_law_321 ⟨by omega, by omega⟩ ?_
          show hs_ZL Y _ _ _ [.int k] _ _ _
          refine hl_aload_n C dL_law_324 2 rfl rfl ?_
          refine hl_callO (wd := 1) (kd := 7) (i := 100) (na := 0) (r := hs_ws (hy_q Y) (hy_cy Y) 0 Sc') C (by decide) wq_32 wq_33 wq_34 wq_7 wq_35 (by decide +kernel) (by decide +kernel) (by decide) (by decide) rfl (by decide) rfl (by decide +kernel) (m_X7_line  Sm e2) List.perm_append_comm List.perm_append_comm rfl rfl rfl (Nat.le_of_ble_eq_true rfl) dL_law_325 ⟨by omega, by omega⟩ ?_
          show hs_ZL Y _ _ _ [.int k, .int k] _ _ _
          refine hl_eqT (tgt := 857) C rfl dL_law_328 (by decide) ?_
          exact hd857 Sc' Sm' _ _ (by omega) (by omega) hR'
        · skip
          by_cases c4 : x0 = 4
          · refine hl_tableIn (off := 294) (tgt := 333) C dL_law_39 (by rw [c4]; decide) (by rw [c4]; decide) (by rw [c4]; rfl) (by decide) ?_
            obtain ⟨k, v, Sc', Sm', Sm2, e1, e2, e3, hv, hR'⟩ := s4 (hy_xs Y (5 * t + 1)) Sc Sm hR
            refine hl_aload_n C dL_law_333 3 rfl rfl ?_
            refine hl_rd (t := 5 * t) (dd := 1) C (by decide) (p0 := 4) (p4 := 0) rfl rfl (by omega) dL_law_334 dL_law_335 dL_law_337 dL_law_338 dL_law_339 ?_
            refine hl_aload_n C dL_law_340 1 rfl rfl ?_
            refine hl_callW (na := 3) C wq_36 wq_37 wq_2 wq_38 (by decide +kernel) (by decide +kernel) (by decide) (by decide) (m_L_size (hy_xs Y (5 * t + 1)) Sc e1) rfl rfl rfl (Nat.le_of_ble_eq_true rfl) dL_law_341 ⟨by omega, by omega⟩ ?_
            refine hl_istore (lv' := [(5, .int k), (4, .int (nI (5 * t))), (3, .ref (hy_q Y 47)), (2, .ref (hy_q Y 100)), (1, .ref (hy_q Y 0)), (0, .ref (hy_b Y))]) C dL_law_344 (by decide) rfl ?_
            refine hl_aload_n C dL_law_346 3 rfl rfl ?_
            refine hl_rd (t := 5 * t) (dd := 1) C (by decide) (p0 := 5) (p4 := 1) rfl rfl (by omega) dL_law_347 dL_law_348 dL_law_350 dL_law_351 dL_law_352 ?_
            refine hl_callO (wd := 1) (kd := 7) (i := 100) (na := 1) (r := hs_ws (hy_q Y) (hy_cy Y) 0 Sc') C (by decide) wq_39 wq_40 wq_41 wq_7 wq_42 (by decide +kernel) (by decide +kernel) (by decide) (by decide) rfl (by decide) rfl (by decide +kernel) (m_X7_size (hy_xs Y (5 * t + 1)) Sm e2) List.perm_append_comm List.perm_append_comm rfl rfl rfl (Nat.le_of_ble_eq_true rfl) dL_law_353 ⟨by omega, by omega⟩ ?_
            show hs_ZL Y _ _ _ [.int v] _ _ _
            refine hl_istore (lv' := [(6, .int v), (5, .int k), (4, .int (nI (5 * t))), (3, .ref (hy_q Y 47)), (2, .ref (hy_q Y 100)), (1, .ref (hy_q Y 0)), (0, .ref (hy_b Y))]) C dL_law_356 (by decide) rfl ?_
            refine hl_aload_n C dL_law_358 4 rfl rfl ?_
            refine hl_callO (wd := 1) (kd := 7) (i := 100) (na := 0) (r := hs_ws (hy_q Y) (hy_cy Y) 0 Sc') C (by decide) wq_9 wq_10 wq_11 wq_7 wq_12 (by decide +kernel) (by decide +kernel) (by decide) (by decide) rfl (by decide) rfl (by decide +kernel) (m_X7_thrown Sm' e3) List.perm_append_comm List.perm_append_comm rfl rfl rfl (Nat.le_of_ble_eq_true rfl) dL_law_359 ⟨by omega, by omega⟩ ?_
            show hs_ZL Y _ _ _ [.int k] _ _ _
            refine hl_iload C dL_law_362 1 rfl ?_
            refine hl_eqT (tgt := 369) C rfl dL_law_364 (by decide) ?_
            refine hl_iload C dL_law_369 1 rfl ?_
            refine hl_ifne (tgt := 386) C dL_law_371 (by decide) (fun h0 => ?_) (fun h0 => ?_)
            · skip
              refine hl_goto (tgt := 857) C dL_law_386 (by decide) ?_
              refine hl_sub [2, 3, 4, 5, 6] rfl ?_
              exact hd857 Sc' Sm2 _ _ (by omega) (by omega) hR'
            · skip
              refine hl_cmp (p3 := 3) (p6 := 0) (tgt := 386) C (hv h0) rfl rfl dL_law_374 dL_law_375 dL_law_376 dL_law_377 dL_law_379 dL_law_380 dL_law_381 (by decide) ?_
              refine hl_goto (tgt := 857) C dL_law_386 (by decide) ?_
              refine hl_sub [2, 3, 4, 5, 6] rfl ?_
              exact hd857 Sc' Sm2 _ _ (by omega) (by omega) hR'
          · skip
            by_cases c5 : x0 = 5
            · refine hl_tableIn (off := 350) (tgt := 389) C dL_law_39 (by rw [c5]; decide) (by rw [c5]; decide) (by rw [c5]; rfl) (by decide) ?_
              obtain ⟨k, v, Sc', Sm', Sm2, e1, e2, e3, hv, hR'⟩ := s5 (hy_xs Y (5 * t + 1)) (hy_xs Y (5 * t + 2)) Sc Sm hR
              refine hl_aload_n C dL_law_389 3 rfl rfl ?_
              refine hl_rd (t := 5 * t) (dd := 1) C (by decide) (p0 := 4) (p4 := 0) rfl rfl (by omega) dL_law_390 dL_law_391 dL_law_393 dL_law_394 dL_law_395 ?_
              refine hl_rd (t := 5 * t) (dd := 2) C (by decide) (p0 := 4) (p4 := 0) rfl rfl (by omega) dL_law_396 dL_law_397 dL_law_399 dL_law_400 dL_law_401 ?_
              refine hl_aload_n C dL_law_402 1 rfl rfl ?_
              refine hl_callW (na := 4) C wq_43 wq_44 wq_2 wq_45 (by decide +kernel) (by decide +kernel) (by decide) (by decide) (m_L_byteAt (hy_xs Y (5 * t + 1)) (hy_xs Y (5 * t + 2)) Sc e1) rfl rfl rfl (Nat.le_of_ble_eq_true rfl) dL_law_403 ⟨by omega, by omega⟩ ?_
              refine hl_istore (lv' := [(5, .int k), (4, .int (nI (5 * t))), (3, .ref (hy_q Y 47)), (2, .ref (hy_q Y 100)), (1, .ref (hy_q Y 0)), (0, .ref (hy_b Y))]) C dL_law_406 (by decide) rfl ?_
              refine hl_aload_n C dL_law_408 3 rfl rfl ?_
              refine hl_rd (t := 5 * t) (dd := 1) C (by decide) (p0 := 5) (p4 := 1) rfl rfl (by omega) dL_law_409 dL_law_410 dL_law_412 dL_law_413 dL_law_414 ?_
              refine hl_rd (t := 5 * t) (dd := 2) C (by decide) (p0 := 5) (p4 := 1) rfl rfl (by omega) dL_law_415 dL_law_416 dL_law_418 dL_law_419 dL_law_420 ?_
              refine hl_callO (wd := 1) (kd := 7) (i := 100) (na := 2) (r := hs_ws (hy_q Y) (hy_cy Y) 0 Sc') C (by decide) wq_46 wq_47 wq_48 wq_7 wq_49 (by decide +kernel) (by decide +kernel) (by decide) (by decide) rfl (by decide) rfl (by decide +kernel) (m_X7_byteAt (hy_xs Y (5 * t + 1)) (hy_xs Y (5 * t + 2)) Sm e2) List.perm_append_comm List.perm_append_comm rfl rfl rfl (Nat.le_of_ble_eq_true rfl) dL_law_421 ⟨by omega, by omega⟩ ?_
              show hs_ZL Y _ _ _ [.int v] _ _ _
              refine hl_istore (lv' := [(6, .int v), (5, .int k), (4, .int (nI (5 * t))), (3, .ref (hy_q Y 47)), (2, .ref (hy_q Y 100)), (1, .ref (hy_q Y 0)), (0, .ref (hy_b Y))]) C dL_law_424 (by decide) rfl ?_
              refine hl_aload_n C dL_law_426 4 rfl rfl ?_
              refine hl_callO (wd := 1) (kd := 7) (i := 100) (na := 0) (r := hs_ws (hy_q Y) (hy_cy Y) 0 Sc') C (by decide) wq_9 wq_10 wq_11 wq_7 wq_12 (by decide +kernel) (by decide +kernel) (by decide) (by decide) rfl (by decide) rfl (by decide +kernel) (m_X7_thrown Sm' e3) List.perm_append_comm List.perm_append_comm rfl rfl rfl (Nat.le_of_ble_eq_true rfl) dL_law_427 ⟨by omega, by omega⟩ ?_
              show hs_ZL Y _ _ _ [.int k] _ _ _
              refine hl_iload C dL_law_430 1 rfl ?_
              refine hl_eqT (tgt := 437) C rfl dL_law_432 (by decide) ?_
              refine hl_iload C dL_law_437 1 rfl ?_
              refine hl_ifne (tgt := 454) C dL_law_439 (by decide) (fun h0 => ?_) (fun h0 => ?_)
              · skip
                refine hl_goto (tgt := 857) C dL_law_454 (by decide) ?_
                refine hl_sub [2, 3, 4, 5, 6] rfl ?_
                exact hd857 Sc' Sm2 _ _ (by omega) (by omega) hR'
              · skip
                refine hl_cmp (p3 := 3) (p6 := 0) (tgt := 454) C (hv h0) rfl rfl dL_law_442 dL_law_443 dL_law_444 dL_law_445 dL_law_447 dL_law_448 dL_law_449 (by decide) ?_
                refine hl_goto (tgt := 857) C dL_law_454 (by decide) ?_
                refine hl_sub [2, 3, 4, 5, 6] rfl ?_
                exact hd857 Sc' Sm2 _ _ (by omega) (by omega) hR'
            · skip
              by_cases c6 : x0 = 6
              · refine hl_tableIn (off := 418) (tgt := 457) C dL_law_39 (by rw [c6]; decide) (by rw [c6]; decide) (by rw [c6]; rfl) (by decide) ?_
                obtain ⟨k, Sc', Sm', Sm2, e1, e2, e3, hR'⟩ := s6 (hy_xs Y (5 * t + 1)) (hy_xs Y (5 * t + 2)) (hy_xs Y (5 * t + 3)) Sc Sm hR
                refine hl_aload_n C dL_law_457 3 rfl rfl ?_
                refine hl_rd (t := 5 * t) (dd := 1) C (by decide) (p0 := 4) (p4 := 0) rfl rfl (by omega) dL_law_458 dL_law_459 dL_law_461 dL_law_462 dL_law_463 ?_
                refine hl_rd (t := 5 * t) (dd := 2) C (by decide) (p0 := 4) (p4 := 0) rfl rfl (by omega) dL_law_464 dL_law_465 dL_law_467 dL_law_468 dL_law_469 ?_
                refine hl_rd (t := 5 * t) (dd := 3) C (by decide) (p0 := 4) (p4 := 0) rfl rfl (by omega) dL_law_470 dL_law_471 dL_law_473 dL_law_474 dL_law_475 ?_
                refine hl_callW (na := 4) C wq_50 wq_51 wq_2 wq_52 (by decide +kernel) (by decide +kernel) (by decide) (by decide) (m_L_spoil (hy_xs Y (5 * t + 1)) (hy_xs Y (5 * t + 2)) (hy_xs Y (5 * t + 3)) Sc e1) rfl rfl rfl (Nat.le_of_ble_eq_true rfl) dL_law_476 ⟨by omega, by omega⟩ ?_
                refine hl_istore (lv' := [(5, .int k), (4, .int (nI (5 * t))), (3, .ref (hy_q Y 47)), (2, .ref (hy_q Y 100)), (1, .ref (hy_q Y 0)), (0, .ref (hy_b Y))]) C dL_law_479 (by decide) rfl ?_
                refine hl_aload_n C dL_law_481 3 rfl rfl ?_
                refine hl_rd (t := 5 * t) (dd := 1) C (by decide) (p0 := 5) (p4 := 1) rfl rfl (by omega) dL_law_482 dL_law_483 dL_law_485 dL_law_486 dL_law_487 ?_
                refine hl_rd (t := 5 * t) (dd := 2) C (by decide) (p0 := 5) (p4 := 1) rfl rfl (by omega) dL_law_488 dL_law_489 dL_law_491 dL_law_492 dL_law_493 ?_
                refine hl_rd (t := 5 * t) (dd := 3) C (by decide) (p0 := 5) (p4 := 1) rfl rfl (by omega) dL_law_494 dL_law_495 dL_law_497 dL_law_498 dL_law_499 ?_
                refine hl_callO (wd := 1) (kd := 7) (i := 100) (na := 3) (r := hs_ws (hy_q Y) (hy_cy Y) 0 Sc') C (by decide) wq_53 wq_54 wq_55 wq_7 wq_56 (by decide +kernel) (by decide +kernel) (by decide) (by decide) rfl (by decide) rfl (by decide +kernel) (m_X7_spoil (hy_xs Y (5 * t + 1)) (hy_xs Y (5 * t + 2)) (hy_xs Y (5 * t + 3)) Sm e2) List.perm_append_comm List.perm_append_comm rfl rfl rfl (Nat.le_of_ble_eq_true rfl) dL_law_500 ⟨by omega, by omega⟩ ?_
                show hs_ZL Y _ _ _ [] _ _ _
                refine hl_aload_n C dL_law_503 3 rfl rfl ?_
                refine hl_callO (wd := 1) (kd := 7) (i := 100) (na := 0) (r := hs_ws (hy_q Y) (hy_cy Y) 0 Sc') C (by decide) wq_9 wq_10 wq_11 wq_7 wq_12 (by decide +kernel) (by decide +kernel) (by decide) (by decide) rfl (by decide) rfl (by decide +kernel) (m_X7_thrown Sm' e3) List.perm_append_comm List.perm_append_comm rfl rfl rfl (Nat.le_of_ble_eq_true rfl) dL_law_504 ⟨by omega, by omega⟩ ?_
                show hs_ZL Y _ _ _ [.int k] _ _ _
                refine hl_iload C dL_law_507 0 rfl ?_
                refine hl_eqT (tgt := 514) C rfl dL_law_509 (by decide) ?_
                refine hl_goto (tgt := 857) C dL_law_514 (by decide) ?_
                refine hl_sub [1, 2, 3, 4, 5] rfl ?_
                exact hd857 Sc' Sm2 _ _ (by omega) (by omega) hR'
              · skip
                by_cases c7 : x0 = 7
                · refine hl_tableIn (off := 478) (tgt := 517) C dL_law_39 (by rw [c7]; decide) (by rw [c7]; decide) (by rw [c7]; rfl) (by decide) ?_
                  obtain ⟨k, Sc', Sm', Sm2, e1, e2, e3, hR'⟩ := s7 (hy_xs Y (5 * t + 1)) Sc Sm hR
                  refine hl_aload_n C dL_law_517 3 rfl rfl ?_
                  refine hl_rd (t := 5 * t) (dd := 1) C (by decide) (p0 := 4) (p4 := 0) rfl rfl (by omega) dL_law_518 dL_law_519 dL_law_521 dL_law_522 dL_law_523 ?_
                  refine hl_callW (na := 2) C wq_57 wq_58 wq_2 wq_59 (by decide +kernel) (by decide +kernel) (by decide) (by decide) (m_L_lose (hy_xs Y (5 * t + 1)) Sc e1) rfl rfl rfl (Nat.le_of_ble_eq_true rfl) dL_law_524 ⟨by omega, by omega⟩ ?_
                  refine hl_istore (lv' := [(5, .int k), (4, .int (nI (5 * t))), (3, .ref (hy_q Y 47)), (2, .ref (hy_q Y 100)), (1, .ref (hy_q Y 0)), (0, .ref (hy_b Y))]) C dL_law_527 (by decide) rfl ?_
                  refine hl_aload_n C dL_law_529 3 rfl rfl ?_
                  refine hl_rd (t := 5 * t) (dd := 1) C (by decide) (p0 := 5) (p4 := 1) rfl rfl (by omega) dL_law_530 dL_law_531 dL_law_533 dL_law_534 dL_law_535 ?_
                  refine hl_callO (wd := 1) (kd := 7) (i := 100) (na := 1) (r := hs_ws (hy_q Y) (hy_cy Y) 0 Sc') C (by decide) wq_60 wq_61 wq_62 wq_7 wq_63 (by decide +kernel) (by decide +kernel) (by decide) (by decide) rfl (by decide) rfl (by decide +kernel) (m_X7_lose (hy_xs Y (5 * t + 1)) Sm e2) List.perm_append_comm List.perm_append_comm rfl rfl rfl (Nat.le_of_ble_eq_true rfl) dL_law_536 ⟨by omega, by omega⟩ ?_
                  show hs_ZL Y _ _ _ [] _ _ _
                  refine hl_aload_n C dL_law_539 3 rfl rfl ?_
                  refine hl_callO (wd := 1) (kd := 7) (i := 100) (na := 0) (r := hs_ws (hy_q Y) (hy_cy Y) 0 Sc') C (by decide) wq_9 wq_10 wq_11 wq_7 wq_12 (by decide +kernel) (by decide +kernel) (by decide) (by decide) rfl (by decide) rfl (by decide +kernel) (m_X7_thrown Sm' e3) List.perm_append_comm List.perm_append_comm rfl rfl rfl (Nat.le_of_ble_eq_true rfl) dL_law_540 ⟨by omega, by omega⟩ ?_
                  show hs_ZL Y _ _ _ [.int k] _ _ _
                  refine hl_iload C dL_law_543 0 rfl ?_
                  refine hl_eqT (tgt := 550) C rfl dL_law_545 (by decide) ?_
                  refine hl_goto (tgt := 857) C dL_law_550 (by decide) ?_
                  refine hl_sub [1, 2, 3, 4, 5] rfl ?_
                  exact hd857 Sc' Sm2 _ _ (by omega) (by omega) hR'
                · skip
                  by_cases c8 : x0 = 8
                  · refine hl_tableIn (off := 514) (tgt := 553) C dL_law_39 (by rw [c8]; decide) (by rw [c8]; decide) (by rw [c8]; rfl) (by decide) ?_
                    obtain ⟨k, v, Sc', Sm', Sm2, e1, e2, e3, hv, hR'⟩ := s8 (hy_xs Y (5 * t + 1)) Sc Sm hR
                    refine hl_aload_n C dL_law_553 3 rfl rfl ?_
                    refine hl_rd (t := 5 * t) (dd := 1) C (by decide) (p0 := 4) (p4 := 0) rfl rfl (by omega) dL_law_554 dL_law_555 dL_law_557 dL_law_558 dL_law_559 ?_
                    refine hl_aload_n C dL_law_560 1 rfl rfl ?_
                    refine hl_callW (na := 3) C wq_64 wq_65 wq_2 wq_66 (by decide +kernel) (by decide +kernel) (by decide) (by decide) (m_L_deliver (hy_xs Y (5 * t + 1)) Sc e1) rfl rfl rfl (Nat.le_of_ble_eq_true rfl) dL_law_561 ⟨by omega, by omega⟩ ?_
                    refine hl_istore (lv' := [(5, .int k), (4, .int (nI (5 * t))), (3, .ref (hy_q Y 47)), (2, .ref (hy_q Y 100)), (1, .ref (hy_q Y 0)), (0, .ref (hy_b Y))]) C dL_law_564 (by decide) rfl ?_
                    refine hl_aload_n C dL_law_566 3 rfl rfl ?_
                    refine hl_rd (t := 5 * t) (dd := 1) C (by decide) (p0 := 5) (p4 := 1) rfl rfl (by omega) dL_law_567 dL_law_568 dL_law_570 dL_law_571 dL_law_572 ?_
                    refine hl_callO (wd := 1) (kd := 7) (i := 100) (na := 1) (r := hs_ws (hy_q Y) (hy_cy Y) 0 Sc') C (by decide) wq_67 wq_68 wq_69 wq_7 wq_70 (by decide +kernel) (by decide +kernel) (by decide) (by decide) rfl (by decide) rfl (by decide +kernel) (m_X7_deliver (hy_xs Y (5 * t + 1)) Sm e2) List.perm_append_comm List.perm_append_comm rfl rfl rfl (Nat.le_of_ble_eq_true rfl) dL_law_573 ⟨by omega, by omega⟩ ?_
                    show hs_ZL Y _ _ _ [.int v] _ _ _
                    refine hl_istore (lv' := [(6, .int v), (5, .int k), (4, .int (nI (5 * t))), (3, .ref (hy_q Y 47)), (2, .ref (hy_q Y 100)), (1, .ref (hy_q Y 0)), (0, .ref (hy_b Y))]) C dL_law_576 (by decide) rfl ?_
                    refine hl_aload_n C dL_law_578 4 rfl rfl ?_
                    refine hl_callO (wd := 1) (kd := 7) (i := 100) (na := 0) (r := hs_ws (hy_q Y) (hy_cy Y) 0 Sc') C (by decide) wq_9 wq_10 wq_11 wq_7 wq_12 (by decide +kernel) (by decide +kernel) (by decide) (by decide) rfl (by decide) rfl (by decide +kernel) (m_X7_thrown Sm' e3) List.perm_append_comm List.perm_append_comm rfl rfl rfl (Nat.le_of_ble_eq_true rfl) dL_law_579 ⟨by omega, by omega⟩ ?_
                    show hs_ZL Y _ _ _ [.int k] _ _ _
                    refine hl_iload C dL_law_582 1 rfl ?_
                    refine hl_eqT (tgt := 589) C rfl dL_law_584 (by decide) ?_
                    refine hl_iload C dL_law_589 1 rfl ?_
                    refine hl_ifne (tgt := 606) C dL_law_591 (by decide) (fun h0 => ?_) (fun h0 => ?_)
                    · skip
                      refine hl_goto (tgt := 857) C dL_law_606 (by decide) ?_
                      refine hl_sub [2, 3, 4, 5, 6] rfl ?_
                      exact hd857 Sc' Sm2 _ _ (by omega) (by omega) hR'
                    · skip
                      refine hl_cmp (p3 := 3) (p6 := 0) (tgt := 606) C (hv h0) rfl rfl dL_law_594 dL_law_595 dL_law_596 dL_law_597 dL_law_599 dL_law_600 dL_law_601 (by decide) ?_
                      refine hl_goto (tgt := 857) C dL_law_606 (by decide) ?_
                      refine hl_sub [2, 3, 4, 5, 6] rfl ?_
                      exact hd857 Sc' Sm2 _ _ (by omega) (by omega) hR'
                  · skip
                    by_cases c9 : x0 = 9
                    · refine hl_tableIn (off := 570) (tgt := 609) C dL_law_39 (by rw [c9]; decide) (by rw [c9]; decide) (by rw [c9]; rfl) (by decide) ?_
                      obtain ⟨k, v, Sc', Sm', Sm2, e1, e2, e3, hv, hR'⟩ := s9 (hy_xs Y (5 * t + 1)) Sc Sm hR
                      refine hl_aload_n C dL_law_609 3 rfl rfl ?_
                      refine hl_rd (t := 5 * t) (dd := 1) C (by decide) (p0 := 4) (p4 := 0) rfl rfl (by omega) dL_law_610 dL_law_611 dL_law_613 dL_law_614 dL_law_615 ?_
                      refine hl_aload_n C dL_law_616 1 rfl rfl ?_
                      refine hl_callW (na := 3) C wq_71 wq_72 wq_2 wq_73 (by decide +kernel) (by decide +kernel) (by decide) (by decide) (m_L_made (hy_xs Y (5 * t + 1)) Sc e1) rfl rfl rfl (Nat.le_of_ble_eq_true rfl) dL_law_617 ⟨by omega, by omega⟩ ?_
                      refine hl_istore (lv' := [(5, .int k), (4, .int (nI (5 * t))), (3, .ref (hy_q Y 47)), (2, .ref (hy_q Y 100)), (1, .ref (hy_q Y 0)), (0, .ref (hy_b Y))]) C dL_law_620 (by decide) rfl ?_
                      refine hl_aload_n C dL_law_622 3 rfl rfl ?_
                      refine hl_rd (t := 5 * t) (dd := 1) C (by decide) (p0 := 5) (p4 := 1) rfl rfl (by omega) dL_law_623 dL_law_624 dL_law_626 dL_law_627 dL_law_628 ?_
                      refine hl_callO (wd := 1) (kd := 7) (i := 100) (na := 1) (r := hs_ws (hy_q Y) (hy_cy Y) 0 Sc') C (by decide) wq_74 wq_75 wq_76 wq_7 wq_77 (by decide +kernel) (by decide +kernel) (by decide) (by decide) rfl (by decide) rfl (by decide +kernel) (m_X7_made (hy_xs Y (5 * t + 1)) Sm e2) List.perm_append_comm List.perm_append_comm rfl rfl rfl (Nat.le_of_ble_eq_true rfl) dL_law_629 ⟨by omega, by omega⟩ ?_
                      show hs_ZL Y _ _ _ [.int v] _ _ _
                      refine hl_istore (lv' := [(6, .int v), (5, .int k), (4, .int (nI (5 * t))), (3, .ref (hy_q Y 47)), (2, .ref (hy_q Y 100)), (1, .ref (hy_q Y 0)), (0, .ref (hy_b Y))]) C dL_law_632 (by decide) rfl ?_
                      refine hl_aload_n C dL_law_634 4 rfl rfl ?_
                      refine hl_callO (wd := 1) (kd := 7) (i := 100) (na := 0) (r := hs_ws (hy_q Y) (hy_cy Y) 0 Sc') C (by decide) wq_9 wq_10 wq_11 wq_7 wq_12 (by decide +kernel) (by decide +kernel) (by decide) (by decide) rfl (by decide) rfl (by decide +kernel) (m_X7_thrown Sm' e3) List.perm_append_comm List.perm_append_comm rfl rfl rfl (Nat.le_of_ble_eq_true rfl) dL_law_635 ⟨by omega, by omega⟩ ?_
                      show hs_ZL Y _ _ _ [.int k] _ _ _
                      refine hl_iload C dL_law_638 1 rfl ?_
                      refine hl_eqT (tgt := 645) C rfl dL_law_640 (by decide) ?_
                      refine hl_iload C dL_law_645 1 rfl ?_
                      refine hl_ifne (tgt := 662) C dL_law_647 (by decide) (fun h0 => ?_) (fun h0 => ?_)
                      · skip
                        refine hl_goto (tgt := 857) C dL_law_662 (by decide) ?_
                        refine hl_sub [2, 3, 4, 5, 6] rfl ?_
                        exact hd857 Sc' Sm2 _ _ (by omega) (by omega) hR'
                      · skip
                        refine hl_cmp (p3 := 3) (p6 := 0) (tgt := 662) C (hv h0) rfl rfl dL_law_650 dL_law_651 dL_law_652 dL_law_653 dL_law_655 dL_law_656 dL_law_657 (by decide) ?_
                        refine hl_goto (tgt := 857) C dL_law_662 (by decide) ?_
                        refine hl_sub [2, 3, 4, 5, 6] rfl ?_
                        exact hd857 Sc' Sm2 _ _ (by omega) (by omega) hR'
                    · skip
                      by_cases c10 : x0 = 10
                      · refine hl_tableIn (off := 626) (tgt := 665) C dL_law_39 (by rw [c10]; decide) (by rw [c10]; decide) (by rw [c10]; rfl) (by decide) ?_
                        obtain ⟨k, v, Sc', Sm', Sm2, e1, e2, e3, hv, hR'⟩ := s10 (hy_xs Y (5 * t + 1)) (hy_xs Y (5 * t + 2)) Sc Sm hR
                        refine hl_aload_n C dL_law_665 3 rfl rfl ?_
                        refine hl_rd (t := 5 * t) (dd := 1) C (by decide) (p0 := 4) (p4 := 0) rfl rfl (by omega) dL_law_666 dL_law_667 dL_law_669 dL_law_670 dL_law_671 ?_
                        refine hl_rd (t := 5 * t) (dd := 2) C (by decide) (p0 := 4) (p4 := 0) rfl rfl (by omega) dL_law_672 dL_law_673 dL_law_675 dL_law_676 dL_law_677 ?_
                        refine hl_aload_n C dL_law_678 1 rfl rfl ?_
                        refine hl_callW (na := 4) C wq_78 wq_79 wq_2 wq_80 (by decide +kernel) (by decide +kernel) (by decide) (by decide) (m_L_sender (hy_xs Y (5 * t + 1)) (hy_xs Y (5 * t + 2)) Sc e1) rfl rfl rfl (Nat.le_of_ble_eq_true rfl) dL_law_679 ⟨by omega, by omega⟩ ?_
                        refine hl_istore (lv' := [(5, .int k), (4, .int (nI (5 * t))), (3, .ref (hy_q Y 47)), (2, .ref (hy_q Y 100)), (1, .ref (hy_q Y 0)), (0, .ref (hy_b Y))]) C dL_law_682 (by decide) rfl ?_
                        refine hl_aload_n C dL_law_684 3 rfl rfl ?_
                        refine hl_rd (t := 5 * t) (dd := 1) C (by decide) (p0 := 5) (p4 := 1) rfl rfl (by omega) dL_law_685 dL_law_686 dL_law_688 dL_law_689 dL_law_690 ?_
                        refine hl_rd (t := 5 * t) (dd := 2) C (by decide) (p0 := 5) (p4 := 1) rfl rfl (by omega) dL_law_691 dL_law_692 dL_law_694 dL_law_695 dL_law_696 ?_
                        refine hl_callO (wd := 1) (kd := 7) (i := 100) (na := 2) (r := hs_ws (hy_q Y) (hy_cy Y) 0 Sc') C (by decide) wq_81 wq_82 wq_83 wq_7 wq_84 (by decide +kernel) (by decide +kernel) (by decide) (by decide) rfl (by decide) rfl (by decide +kernel) (m_X7_sender (hy_xs Y (5 * t + 1)) (hy_xs Y (5 * t + 2)) Sm e2) List.perm_append_comm List.perm_append_comm rfl rfl rfl (Nat.le_of_ble_eq_true rfl) dL_law_697 ⟨by omega, by omega⟩ ?_
                        show hs_ZL Y _ _ _ [.int v] _ _ _
                        refine hl_istore (lv' := [(6, .int v), (5, .int k), (4, .int (nI (5 * t))), (3, .ref (hy_q Y 47)), (2, .ref (hy_q Y 100)), (1, .ref (hy_q Y 0)), (0, .ref (hy_b Y))]) C dL_law_700 (by decide) rfl ?_
                        refine hl_aload_n C dL_law_702 4 rfl rfl ?_
                        refine hl_callO (wd := 1) (kd := 7) (i := 100) (na := 0) (r := hs_ws (hy_q Y) (hy_cy Y) 0 Sc') C (by decide) wq_9 wq_10 wq_11 wq_7 wq_12 (by decide +kernel) (by decide +kernel) (by decide) (by decide) rfl (by decide) rfl (by decide +kernel) (m_X7_thrown Sm' e3) List.perm_append_comm List.perm_append_comm rfl rfl rfl (Nat.le_of_ble_eq_true rfl) dL_law_703 ⟨by omega, by omega⟩ ?_
                        show hs_ZL Y _ _ _ [.int k] _ _ _
                        refine hl_iload C dL_law_706 1 rfl ?_
                        refine hl_eqT (tgt := 713) C rfl dL_law_708 (by decide) ?_
                        refine hl_iload C dL_law_713 1 rfl ?_
                        refine hl_ifne (tgt := 730) C dL_law_715 (by decide) (fun h0 => ?_) (fun h0 => ?_)
                        · skip
                          refine hl_goto (tgt := 857) C dL_law_730 (by decide) ?_
                          refine hl_sub [2, 3, 4, 5, 6] rfl ?_
                          exact hd857 Sc' Sm2 _ _ (by omega) (by omega) hR'
                        · skip
                          refine hl_cmp (p3 := 3) (p6 := 0) (tgt := 730) C (hv h0) rfl rfl dL_law_718 dL_law_719 dL_law_720 dL_law_721 dL_law_723 dL_law_724 dL_law_725 (by decide) ?_
                          refine hl_goto (tgt := 857) C dL_law_730 (by decide) ?_
                          refine hl_sub [2, 3, 4, 5, 6] rfl ?_
                          exact hd857 Sc' Sm2 _ _ (by omega) (by omega) hR'
                      · skip
                        by_cases c11 : x0 = 11
                        · refine hl_tableIn (off := 694) (tgt := 733) C dL_law_39 (by rw [c11]; decide) (by rw [c11]; decide) (by rw [c11]; rfl) (by decide) ?_
                          obtain ⟨k, v, Sc', Sm', Sm2, e1, e2, e3, hv, hR'⟩ := s11 (hy_xs Y (5 * t + 1)) (hy_xs Y (5 * t + 2)) Sc Sm hR
                          refine hl_aload_n C dL_law_733 3 rfl rfl ?_
                          refine hl_rd (t := 5 * t) (dd := 1) C (by decide) (p0 := 4) (p4 := 0) rfl rfl (by omega) dL_law_734 dL_law_735 dL_law_737 dL_law_738 dL_law_739 ?_
                          refine hl_rd (t := 5 * t) (dd := 2) C (by decide) (p0 := 4) (p4 := 0) rfl rfl (by omega) dL_law_740 dL_law_741 dL_law_743 dL_law_744 dL_law_745 ?_
                          refine hl_aload_n C dL_law_746 1 rfl rfl ?_
                          refine hl_callW (na := 4) C wq_85 wq_86 wq_2 wq_87 (by decide +kernel) (by decide +kernel) (by decide) (by decide) (m_L_receiver (hy_xs Y (5 * t + 1)) (hy_xs Y (5 * t + 2)) Sc e1) rfl rfl rfl (Nat.le_of_ble_eq_true rfl) dL_law_747 ⟨by omega, by omega⟩ ?_
                          refine hl_istore (lv' := [(5, .int k), (4, .int (nI (5 * t))), (3, .ref (hy_q Y 47)), (2, .ref (hy_q Y 100)), (1, .ref (hy_q Y 0)), (0, .ref (hy_b Y))]) C dL_law_750 (by decide) rfl ?_
                          refine hl_aload_n C dL_law_752 3 rfl rfl ?_
                          refine hl_rd (t := 5 * t) (dd := 1) C (by decide) (p0 := 5) (p4 := 1) rfl rfl (by omega) dL_law_753 dL_law_754 dL_law_756 dL_law_757 dL_law_758 ?_
                          refine hl_rd (t := 5 * t) (dd := 2) C (by decide) (p0 := 5) (p4 := 1) rfl rfl (by omega) dL_law_759 dL_law_760 dL_law_762 dL_law_763 dL_law_764 ?_
                          refine hl_callO (wd := 1) (kd := 7) (i := 100) (na := 2) (r := hs_ws (hy_q Y) (hy_cy Y) 0 Sc') C (by decide) wq_88 wq_89 wq_90 wq_7 wq_91 (by decide +kernel) (by decide +kernel) (by decide) (by decide) rfl (by decide) rfl (by decide +kernel) (m_X7_receiver (hy_xs Y (5 * t + 1)) (hy_xs Y (5 * t + 2)) Sm e2) List.perm_append_comm List.perm_append_comm rfl rfl rfl (Nat.le_of_ble_eq_true rfl) dL_law_765 ⟨by omega, by omega⟩ ?_
                          show hs_ZL Y _ _ _ [.int v] _ _ _
                          refine hl_istore (lv' := [(6, .int v), (5, .int k), (4, .int (nI (5 * t))), (3, .ref (hy_q Y 47)), (2, .ref (hy_q Y 100)), (1, .ref (hy_q Y 0)), (0, .ref (hy_b Y))]) C dL_law_768 (by decide) rfl ?_
                          refine hl_aload_n C dL_law_770 4 rfl rfl ?_
                          refine hl_callO (wd := 1) (kd := 7) (i := 100) (na := 0) (r := hs_ws (hy_q Y) (hy_cy Y) 0 Sc') C (by decide) wq_9 wq_10 wq_11 wq_7 wq_12 (by decide +kernel) (by decide +kernel) (by decide) (by decide) rfl (by decide) rfl (by decide +kernel) (m_X7_thrown Sm' e3) List.perm_append_comm List.perm_append_comm rfl rfl rfl (Nat.le_of_ble_eq_true rfl) dL_law_771 ⟨by omega, by omega⟩ ?_
                          show hs_ZL Y _ _ _ [.int k] _ _ _
                          refine hl_iload C dL_law_774 1 rfl ?_
                          refine hl_eqT (tgt := 781) C rfl dL_law_776 (by decide) ?_
                          refine hl_iload C dL_law_781 1 rfl ?_
                          refine hl_ifne (tgt := 798) C dL_law_783 (by decide) (fun h0 => ?_) (fun h0 => ?_)
                          · skip
                            refine hl_goto (tgt := 857) C dL_law_798 (by decide) ?_
                            refine hl_sub [2, 3, 4, 5, 6] rfl ?_
                            exact hd857 Sc' Sm2 _ _ (by omega) (by omega) hR'
                          · skip
                            refine hl_cmp (p3 := 3) (p6 := 0) (tgt := 798) C (hv h0) rfl rfl dL_law_786 dL_law_787 dL_law_788 dL_law_789 dL_law_791 dL_law_792 dL_law_793 (by decide) ?_
                            refine hl_goto (tgt := 857) C dL_law_798 (by decide) ?_
                            refine hl_sub [2, 3, 4, 5, 6] rfl ?_
                            exact hd857 Sc' Sm2 _ _ (by omega) (by omega) hR'
                        · skip
                          by_cases c12 : x0 = 12
                          · refine hl_tableIn (off := 762) (tgt := 801) C dL_law_39 (by rw [c12]; decide) (by rw [c12]; decide) (by rw [c12]; rfl) (by decide) ?_
                            obtain ⟨k, v, Sc', Sm', Sm2, e1, e2, e3, hv, hR'⟩ := s12 (hy_xs Y (5 * t + 1)) Sc Sm hR
                            refine hl_aload_n C dL_law_801 3 rfl rfl ?_
                            refine hl_rd (t := 5 * t) (dd := 1) C (by decide) (p0 := 4) (p4 := 0) rfl rfl (by omega) dL_law_802 dL_law_803 dL_law_805 dL_law_806 dL_law_807 ?_
                            refine hl_aload_n C dL_law_808 1 rfl rfl ?_
                            refine hl_callW (na := 3) C wq_92 wq_93 wq_2 wq_94 (by decide +kernel) (by decide +kernel) (by decide) (by decide) (m_L_count (hy_xs Y (5 * t + 1)) Sc e1) rfl rfl rfl (Nat.le_of_ble_eq_true rfl) dL_law_809 ⟨by omega, by omega⟩ ?_
                            refine hl_istore (lv' := [(5, .int k), (4, .int (nI (5 * t))), (3, .ref (hy_q Y 47)), (2, .ref (hy_q Y 100)), (1, .ref (hy_q Y 0)), (0, .ref (hy_b Y))]) C dL_law_812 (by decide) rfl ?_
                            refine hl_aload_n C dL_law_814 3 rfl rfl ?_
                            refine hl_rd (t := 5 * t) (dd := 1) C (by decide) (p0 := 5) (p4 := 1) rfl rfl (by omega) dL_law_815 dL_law_816 dL_law_818 dL_law_819 dL_law_820 ?_
                            refine hl_callO (wd := 1) (kd := 7) (i := 100) (na := 1) (r := hs_ws (hy_q Y) (hy_cy Y) 0 Sc') C (by decide) wq_95 wq_96 wq_97 wq_7 wq_98 (by decide +kernel) (by decide +kernel) (by decide) (by decide) rfl (by decide) rfl (by decide +kernel) (m_X7_count (hy_xs Y (5 * t + 1)) Sm e2) List.perm_append_comm List.perm_append_comm rfl rfl rfl (Nat.le_of_ble_eq_true rfl) dL_law_821 ⟨by omega, by omega⟩ ?_
                            show hs_ZL Y _ _ _ [.int v] _ _ _
                            refine hl_istore (lv' := [(6, .int v), (5, .int k), (4, .int (nI (5 * t))), (3, .ref (hy_q Y 47)), (2, .ref (hy_q Y 100)), (1, .ref (hy_q Y 0)), (0, .ref (hy_b Y))]) C dL_law_824 (by decide) rfl ?_
                            refine hl_aload_n C dL_law_826 4 rfl rfl ?_
                            refine hl_callO (wd := 1) (kd := 7) (i := 100) (na := 0) (r := hs_ws (hy_q Y) (hy_cy Y) 0 Sc') C (by decide) wq_9 wq_10 wq_11 wq_7 wq_12 (by decide +kernel) (by decide +kernel) (by decide) (by decide) rfl (by decide) rfl (by decide +kernel) (m_X7_thrown Sm' e3) List.perm_append_comm List.perm_append_comm rfl rfl rfl (Nat.le_of_ble_eq_true rfl) dL_law_827 ⟨by omega, by omega⟩ ?_
                            show hs_ZL Y _ _ _ [.int k] _ _ _
                            refine hl_iload C dL_law_830 1 rfl ?_
                            refine hl_eqT (tgt := 837) C rfl dL_law_832 (by decide) ?_
                            refine hl_iload C dL_law_837 1 rfl ?_
                            refine hl_ifne (tgt := 854) C dL_law_839 (by decide) (fun h0 => ?_) (fun h0 => ?_)
                            · skip
                              refine hl_goto (tgt := 857) C dL_law_854 (by decide) ?_
                              refine hl_sub [2, 3, 4, 5, 6] rfl ?_
                              exact hd857 Sc' Sm2 _ _ (by omega) (by omega) hR'
                            · skip
                              refine hl_cmp (p3 := 3) (p6 := 0) (tgt := 854) C (hv h0) rfl rfl dL_law_842 dL_law_843 dL_law_844 dL_law_845 dL_law_847 dL_law_848 dL_law_849 (by decide) ?_
                              refine hl_goto (tgt := 857) C dL_law_854 (by decide) ?_
                              refine hl_sub [2, 3, 4, 5, 6] rfl ?_
                              exact hd857 Sc' Sm2 _ _ (by omega) (by omega) hR'
                          · skip
                            refine hl_tableOut (tgt := 857) C dL_law_39 (by have e0 := lv_neT (a := 0) c0 (by decide); have e1 := lv_neT (a := 1) c1 (by decide); have e2 := lv_neT (a := 2) c2 (by decide); have e3 := lv_neT (a := 3) c3 (by decide); have e4 := lv_neT (a := 4) c4 (by decide); have e5 := lv_neT (a := 5) c5 (by decide); have e6 := lv_neT (a := 6) c6 (by decide); have e7 := lv_neT (a := 7) c7 (by decide); have e8 := lv_neT (a := 8) c8 (by decide); have e9 := lv_neT (a := 9) c9 (by decide); have e10 := lv_neT (a := 10) c10 (by decide); have e11 := lv_neT (a := 11) c11 (by decide); have e12 := lv_neT (a := 12) c12 (by decide); omega) (by decide) ?_
                            exact hd857 Sc Sm _ _ (by omega) (by omega) (sR Sc Sm hR)
theorem hl_head {Y : hs_Y} (C : hs_CL Y) {Sc Sm : hs_M} {t cells slots : Nat} (ht : 5 * t ≤ 320) (kx : hs_ZL Y Sc Sm [(4, .int (nI (5 * t))), (3, .ref (hy_q Y 47)), (2, .ref (hy_q Y 100)), (1, .ref (hy_q Y 0)), (0, .ref (hy_b Y))] [] 863 cells slots) (kk : 5 * t + 5 ≤ hy_L Y → hs_ZL Y Sc Sm [(4, .int (nI (5 * t))), (3, .ref (hy_q Y 47)), (2, .ref (hy_q Y 100)), (1, .ref (hy_q Y 0)), (0, .ref (hy_b Y))] [] 32 cells slots) : hs_ZL Y Sc Sm [(4, .int (nI (5 * t))), (3, .ref (hy_q Y 47)), (2, .ref (hy_q Y 100)), (1, .ref (hy_q Y 0)), (0, .ref (hy_b Y))] [] 23 cells slots := by
  refine hl_iload C dL_law_23 0 rfl ?_
  refine hl_aload_n C dL_law_25 4 rfl rfl ?_
  intro H locs ls hPD hS hl
  obtain ⟨c1, c2, c3, c4, c5, c6, c7, c8, c9, c10, c11, c12, c13, c14⟩ := C
  refine va_slen c1 c2 c11 c12 (Nat.not_le.mpr c12) hS dL_law_26 ?_
  refine lv_iconst (v := 5) c1 c2 dL_law_27 (by decide) ?_
  refine lv_isub c1 c2 dL_law_28 ?_
  have e1 : (Int32.ofNat (hy_L Y) - 5).toInt = (hy_L Y : Int) - 5 := pk_sub_toInt (a := hy_L Y) (b := 5) (by omega) (by omega)
  have e2 : (nI (5 * t)).toInt = ((5 * t : Nat) : Int) := nI_toInt (by omega)
  refine lv_icmp_gt (tgt := 863) c1 c2 dL_law_29 (by decide) (fun _ => kx H locs ls hPD hS hl) (fun c => kk ?_ H locs ls hPD hS hl)
  rw [Int32.lt_iff_toInt_lt, e1, e2] at c
  omega
set_option maxRecDepth 100000 in
set_option maxHeartbeats 4000000 in
theorem law_loop {Y : hs_Y} (C : hs_CL Y) {R : Nat → hs_M → hs_M → Prop} (hSim : ∀ t, t < 64 → hs_Sim (R t) (R (t + 1))) : ∀ (n t : Nat), t + n = 65 → 5 * t ≤ 320 → ∀ (Sc Sm : hs_M), R t Sc Sm → hs_ZL Y Sc Sm [(4, .int (nI (5 * t))), (3, .ref (hy_q Y 47)), (2, .ref (hy_q Y 100)), (1, .ref (hy_q Y 0)), (0, .ref (hy_b Y))] [] 23 (76 + t) (714 + 6 * t) := by
  intro n
  induction n with
  | zero =>
    intro t h1 h2
    omega
  | succ n ih =>
    intro t h1 h2 Sc Sm hR
    refine hl_head C h2 ?_ (fun h5 => ?_)
    · refine hl_iconst (v := 1) C dL_law_863 (by decide) ?_
      intro H locs ls hPD hS hl
      have hL320 := C.2.2.2.2.2.2.2.2.2.2.2.2.1
      refine va_forget (fun q hq => hS.2.2 q hq) ?_
      refine W.widen (k := 600384) (n := 7289322) (by omega) (by omega) ?_
      exact lw_ret C.1 C.2.1 C.2.2.2.2.2.2.2.2.2.2.2.2.2.1 C.2.2.2.2.2.2.2.2.2.2.2.2.2.2 dL_law_864
    · have hL320 : hy_L Y ≤ 320 := C.2.2.2.2.2.2.2.2.2.2.2.2.1
      refine law_step C (hSim t (by omega)) t h5 Sc Sm hR (fun Sc Sm k n hk hn hR => ?_)
      refine hl_up (76 + (t + 1)) (714 + 6 * (t + 1)) hk hn ?_
      refine hl_iinc (v := nI (5 * (t + 1))) (lv' := [(4, .int (nI (5 * (t + 1)))), (3, .ref (hy_q Y 47)), (2, .ref (hy_q Y 100)), (1, .ref (hy_q Y 0)), (0, .ref (hy_b Y))]) C dL_law_857 0 rfl ?_ (by decide) rfl ?_
      · show nI (5 * t) + nI 5 = nI (5 * (t + 1))
        rw [nI_add]
        rfl
      · refine hl_goto (tgt := 23) C dL_law_860 (by decide) ?_
        exact ih (t + 1) (by omega) (by omega) Sc Sm hR
