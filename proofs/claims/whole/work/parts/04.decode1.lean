theorem dX0_init_0 : decode cX0_init 0 = .ok (.aload_n 0, 1) := by decide +kernel
theorem dX0_init_1 : decode cX0_init 1 = .ok (.invokespecial 3, 3) := by decide +kernel
theorem dX0_init_4 : decode cX0_init 4 = .ok (.return_, 1) := by decide +kernel
theorem dX0_isOf_0 : decode cX0_isOf 0 = .ok (.aload_n 0, 1) := by decide +kernel
theorem dX0_isOf_1 : decode cX0_isOf 1 = .ok (.getfield 9, 3) := by decide +kernel
theorem dX0_isOf_4 : decode cX0_isOf 4 = .ok (.aload_n 1, 1) := by decide +kernel
theorem dX0_isOf_5 : decode cX0_isOf 5 = .ok (.getfield 15, 3) := by decide +kernel
theorem dX0_isOf_8 : decode cX0_isOf 8 = .ok (.if_icmp .ne 18, 3) := by decide +kernel
theorem dX0_isOf_11 : decode cX0_isOf 11 = .ok (.aload_n 0, 1) := by decide +kernel
theorem dX0_isOf_12 : decode cX0_isOf 12 = .ok (.getfield 18, 3) := by decide +kernel
theorem dX0_isOf_15 : decode cX0_isOf 15 = .ok (.aload_n 1, 1) := by decide +kernel
theorem dX0_isOf_16 : decode cX0_isOf 16 = .ok (.getfield 21, 3) := by decide +kernel
theorem dX0_isOf_19 : decode cX0_isOf 19 = .ok (.if_icmp .ne 7, 3) := by decide +kernel
theorem dX0_isOf_22 : decode cX0_isOf 22 = .ok (.iconst 1, 1) := by decide +kernel
theorem dX0_isOf_23 : decode cX0_isOf 23 = .ok (.goto 4, 3) := by decide +kernel
theorem dX0_isOf_26 : decode cX0_isOf 26 = .ok (.iconst 0, 1) := by decide +kernel
theorem dX0_isOf_27 : decode cX0_isOf 27 = .ok (.ireturn, 1) := by decide +kernel
theorem dX0_goesAlong_0 : decode cX0_goesAlong 0 = .ok (.aload_n 0, 1) := by decide +kernel
theorem dX0_goesAlong_1 : decode cX0_goesAlong 1 = .ok (.aload_n 1, 1) := by decide +kernel
theorem dX0_goesAlong_2 : decode cX0_goesAlong 2 = .ok (.invokevirtual 22, 3) := by decide +kernel
theorem dX0_goesAlong_5 : decode cX0_goesAlong 5 = .ok (.ifCond .eq 33, 3) := by decide +kernel
theorem dX0_goesAlong_8 : decode cX0_goesAlong 8 = .ok (.aload_n 0, 1) := by decide +kernel
theorem dX0_goesAlong_9 : decode cX0_goesAlong 9 = .ok (.getfield 26, 3) := by decide +kernel
theorem dX0_goesAlong_12 : decode cX0_goesAlong 12 = .ok (.aload_n 1, 1) := by decide +kernel
theorem dX0_goesAlong_13 : decode cX0_goesAlong 13 = .ok (.aload_n 0, 1) := by decide +kernel
theorem dX0_goesAlong_14 : decode cX0_goesAlong 14 = .ok (.getfield 29, 3) := by decide +kernel
theorem dX0_goesAlong_17 : decode cX0_goesAlong 17 = .ok (.invokestatic 32, 3) := by decide +kernel
theorem dX0_goesAlong_20 : decode cX0_goesAlong 20 = .ok (.if_icmp .ne 18, 3) := by decide +kernel
theorem dX0_goesAlong_23 : decode cX0_goesAlong 23 = .ok (.aload_n 0, 1) := by decide +kernel
theorem dX0_goesAlong_24 : decode cX0_goesAlong 24 = .ok (.getfield 36, 3) := by decide +kernel
theorem dX0_goesAlong_27 : decode cX0_goesAlong 27 = .ok (.aload_n 1, 1) := by decide +kernel
theorem dX0_goesAlong_28 : decode cX0_goesAlong 28 = .ok (.invokestatic 39, 3) := by decide +kernel
theorem dX0_goesAlong_31 : decode cX0_goesAlong 31 = .ok (.if_icmp .ne 7, 3) := by decide +kernel
theorem dX0_goesAlong_34 : decode cX0_goesAlong 34 = .ok (.iconst 1, 1) := by decide +kernel
theorem dX0_goesAlong_35 : decode cX0_goesAlong 35 = .ok (.goto 4, 3) := by decide +kernel
theorem dX0_goesAlong_38 : decode cX0_goesAlong 38 = .ok (.iconst 0, 1) := by decide +kernel
theorem dX0_goesAlong_39 : decode cX0_goesAlong 39 = .ok (.ireturn, 1) := by decide +kernel
theorem dX0_follow_0 : decode cX0_follow 0 = .ok (.aload_n 0, 1) := by decide +kernel
theorem dX0_follow_1 : decode cX0_follow 1 = .ok (.aload_n 1, 1) := by decide +kernel
theorem dX0_follow_2 : decode cX0_follow 2 = .ok (.getfield 15, 3) := by decide +kernel
theorem dX0_follow_5 : decode cX0_follow 5 = .ok (.putfield 9, 3) := by decide +kernel
theorem dX0_follow_8 : decode cX0_follow 8 = .ok (.aload_n 0, 1) := by decide +kernel
theorem dX0_follow_9 : decode cX0_follow 9 = .ok (.aload_n 1, 1) := by decide +kernel
theorem dX0_follow_10 : decode cX0_follow 10 = .ok (.getfield 21, 3) := by decide +kernel
theorem dX0_follow_13 : decode cX0_follow 13 = .ok (.putfield 18, 3) := by decide +kernel
theorem dX0_follow_16 : decode cX0_follow 16 = .ok (.aload_n 0, 1) := by decide +kernel
theorem dX0_follow_17 : decode cX0_follow 17 = .ok (.iload_n 2, 1) := by decide +kernel
theorem dX0_follow_18 : decode cX0_follow 18 = .ok (.putfield 29, 3) := by decide +kernel
theorem dX0_follow_21 : decode cX0_follow 21 = .ok (.aload_n 0, 1) := by decide +kernel
theorem dX0_follow_22 : decode cX0_follow 22 = .ok (.aload_n 1, 1) := by decide +kernel
theorem dX0_follow_23 : decode cX0_follow 23 = .ok (.iload_n 2, 1) := by decide +kernel
theorem dX0_follow_24 : decode cX0_follow 24 = .ok (.invokestatic 32, 3) := by decide +kernel
theorem dX0_follow_27 : decode cX0_follow 27 = .ok (.putfield 26, 3) := by decide +kernel
theorem dX0_follow_30 : decode cX0_follow 30 = .ok (.aload_n 0, 1) := by decide +kernel
theorem dX0_follow_31 : decode cX0_follow 31 = .ok (.aload_n 1, 1) := by decide +kernel
theorem dX0_follow_32 : decode cX0_follow 32 = .ok (.invokestatic 39, 3) := by decide +kernel
theorem dX0_follow_35 : decode cX0_follow 35 = .ok (.putfield 36, 3) := by decide +kernel
theorem dX0_follow_38 : decode cX0_follow 38 = .ok (.return_, 1) := by decide +kernel
theorem dX0_complete_0 : decode cX0_complete 0 = .ok (.aload_n 1, 1) := by decide +kernel
theorem dX0_complete_1 : decode cX0_complete 1 = .ok (.aload_n 0, 1) := by decide +kernel
theorem dX0_complete_2 : decode cX0_complete 2 = .ok (.getfield 9, 3) := by decide +kernel
theorem dX0_complete_5 : decode cX0_complete 5 = .ok (.putfield 15, 3) := by decide +kernel
theorem dX0_complete_8 : decode cX0_complete 8 = .ok (.aload_n 1, 1) := by decide +kernel
theorem dX0_complete_9 : decode cX0_complete 9 = .ok (.aload_n 0, 1) := by decide +kernel
theorem dX0_complete_10 : decode cX0_complete 10 = .ok (.getfield 18, 3) := by decide +kernel
theorem dX0_complete_13 : decode cX0_complete 13 = .ok (.putfield 21, 3) := by decide +kernel
theorem dX0_complete_16 : decode cX0_complete 16 = .ok (.aload_n 1, 1) := by decide +kernel
theorem dX0_complete_17 : decode cX0_complete 17 = .ok (.iload_n 2, 1) := by decide +kernel
theorem dX0_complete_18 : decode cX0_complete 18 = .ok (.putfield 43, 3) := by decide +kernel
theorem dX0_complete_21 : decode cX0_complete 21 = .ok (.aload_n 1, 1) := by decide +kernel
theorem dX0_complete_22 : decode cX0_complete 22 = .ok (.aload_n 0, 1) := by decide +kernel
theorem dX0_complete_23 : decode cX0_complete 23 = .ok (.getfield 26, 3) := by decide +kernel
theorem dX0_complete_26 : decode cX0_complete 26 = .ok (.iload_n 2, 1) := by decide +kernel
theorem dX0_complete_27 : decode cX0_complete 27 = .ok (.aload_n 0, 1) := by decide +kernel
theorem dX0_complete_28 : decode cX0_complete 28 = .ok (.getfield 29, 3) := by decide +kernel
theorem dX0_complete_31 : decode cX0_complete 31 = .ok (.imul, 1) := by decide +kernel
theorem dX0_complete_32 : decode cX0_complete 32 = .ok (.iadd, 1) := by decide +kernel
theorem dX0_complete_33 : decode cX0_complete 33 = .ok (.putfield 46, 3) := by decide +kernel
theorem dX0_complete_36 : decode cX0_complete 36 = .ok (.aload_n 1, 1) := by decide +kernel
theorem dX0_complete_37 : decode cX0_complete 37 = .ok (.aload_n 0, 1) := by decide +kernel
theorem dX0_complete_38 : decode cX0_complete 38 = .ok (.getfield 36, 3) := by decide +kernel
theorem dX0_complete_41 : decode cX0_complete 41 = .ok (.iload_n 2, 1) := by decide +kernel
theorem dX0_complete_42 : decode cX0_complete 42 = .ok (.iadd, 1) := by decide +kernel
theorem dX0_complete_43 : decode cX0_complete 43 = .ok (.ldc 49, 2) := by decide +kernel
theorem dX0_complete_45 : decode cX0_complete 45 = .ok (.iand, 1) := by decide +kernel
theorem dX0_complete_46 : decode cX0_complete 46 = .ok (.putfield 50, 3) := by decide +kernel
theorem dX0_complete_49 : decode cX0_complete 49 = .ok (.return_, 1) := by decide +kernel
theorem dX0_phaseOf_0 : decode cX0_phaseOf 0 = .ok (.aload_n 0, 1) := by decide +kernel
theorem dX0_phaseOf_1 : decode cX0_phaseOf 1 = .ok (.getfield 46, 3) := by decide +kernel
theorem dX0_phaseOf_4 : decode cX0_phaseOf 4 = .ok (.aload_n 0, 1) := by decide +kernel
theorem dX0_phaseOf_5 : decode cX0_phaseOf 5 = .ok (.getfield 43, 3) := by decide +kernel
theorem dX0_phaseOf_8 : decode cX0_phaseOf 8 = .ok (.iload_n 1, 1) := by decide +kernel
theorem dX0_phaseOf_9 : decode cX0_phaseOf 9 = .ok (.imul, 1) := by decide +kernel
theorem dX0_phaseOf_10 : decode cX0_phaseOf 10 = .ok (.isub, 1) := by decide +kernel
theorem dX0_phaseOf_11 : decode cX0_phaseOf 11 = .ok (.ireturn, 1) := by decide +kernel
theorem dX0_offsetOf_0 : decode cX0_offsetOf 0 = .ok (.aload_n 0, 1) := by decide +kernel
theorem dX0_offsetOf_1 : decode cX0_offsetOf 1 = .ok (.getfield 50, 3) := by decide +kernel
theorem dX0_offsetOf_4 : decode cX0_offsetOf 4 = .ok (.aload_n 0, 1) := by decide +kernel
theorem dX0_offsetOf_5 : decode cX0_offsetOf 5 = .ok (.getfield 43, 3) := by decide +kernel
theorem dX0_offsetOf_8 : decode cX0_offsetOf 8 = .ok (.isub, 1) := by decide +kernel
theorem dX0_offsetOf_9 : decode cX0_offsetOf 9 = .ok (.ldc 49, 2) := by decide +kernel
theorem dX0_offsetOf_11 : decode cX0_offsetOf 11 = .ok (.iand, 1) := by decide +kernel
theorem dX0_offsetOf_12 : decode cX0_offsetOf 12 = .ok (.ireturn, 1) := by decide +kernel
theorem dX1_init_0 : decode cX1_init 0 = .ok (.aload_n 0, 1) := by decide +kernel
theorem dX1_init_1 : decode cX1_init 1 = .ok (.invokespecial 3, 3) := by decide +kernel
theorem dX1_init_4 : decode cX1_init 4 = .ok (.return_, 1) := by decide +kernel
theorem dX1_part_0 : decode cX1_part 0 = .ok (.iload_n 1, 1) := by decide +kernel
theorem dX1_part_1 : decode cX1_part 1 = .ok (.tableswitch 148 0 9 #[55, 63, 72, 82, 90, 99, 107, 119, 131, 140], 55) := by decide +kernel
theorem dX1_part_56 : decode cX1_part 56 = .ok (.aload_n 0, 1) := by decide +kernel
theorem dX1_part_57 : decode cX1_part 57 = .ok (.getfield 9, 3) := by decide +kernel
theorem dX1_part_60 : decode cX1_part 60 = .ok (.bipush 8, 2) := by decide +kernel
theorem dX1_part_62 : decode cX1_part 62 = .ok (.iushr, 1) := by decide +kernel
theorem dX1_part_63 : decode cX1_part 63 = .ok (.ireturn, 1) := by decide +kernel
theorem dX1_part_64 : decode cX1_part 64 = .ok (.aload_n 0, 1) := by decide +kernel
theorem dX1_part_65 : decode cX1_part 65 = .ok (.getfield 9, 3) := by decide +kernel
theorem dX1_part_68 : decode cX1_part 68 = .ok (.sipush 255, 3) := by decide +kernel
theorem dX1_part_71 : decode cX1_part 71 = .ok (.iand, 1) := by decide +kernel
theorem dX1_part_72 : decode cX1_part 72 = .ok (.ireturn, 1) := by decide +kernel
theorem dX1_part_73 : decode cX1_part 73 = .ok (.aload_n 0, 1) := by decide +kernel
theorem dX1_part_74 : decode cX1_part 74 = .ok (.getfield 15, 3) := by decide +kernel
theorem dX1_part_77 : decode cX1_part 77 = .ok (.aload_n 0, 1) := by decide +kernel
theorem dX1_part_78 : decode cX1_part 78 = .ok (.invokevirtual 18, 3) := by decide +kernel
theorem dX1_part_81 : decode cX1_part 81 = .ok (.iadd, 1) := by decide +kernel
theorem dX1_part_82 : decode cX1_part 82 = .ok (.ireturn, 1) := by decide +kernel
theorem dX1_part_83 : decode cX1_part 83 = .ok (.aload_n 0, 1) := by decide +kernel
theorem dX1_part_84 : decode cX1_part 84 = .ok (.getfield 22, 3) := by decide +kernel
theorem dX1_part_87 : decode cX1_part 87 = .ok (.bipush 8, 2) := by decide +kernel
theorem dX1_part_89 : decode cX1_part 89 = .ok (.iushr, 1) := by decide +kernel
theorem dX1_part_90 : decode cX1_part 90 = .ok (.ireturn, 1) := by decide +kernel
theorem dX1_part_91 : decode cX1_part 91 = .ok (.aload_n 0, 1) := by decide +kernel
theorem dX1_part_92 : decode cX1_part 92 = .ok (.getfield 22, 3) := by decide +kernel
theorem dX1_part_95 : decode cX1_part 95 = .ok (.sipush 255, 3) := by decide +kernel
theorem dX1_part_98 : decode cX1_part 98 = .ok (.iand, 1) := by decide +kernel
theorem dX1_part_99 : decode cX1_part 99 = .ok (.ireturn, 1) := by decide +kernel
theorem dX1_part_100 : decode cX1_part 100 = .ok (.aload_n 0, 1) := by decide +kernel
theorem dX1_part_101 : decode cX1_part 101 = .ok (.getfield 25, 3) := by decide +kernel
theorem dX1_part_104 : decode cX1_part 104 = .ok (.bipush 24, 2) := by decide +kernel
theorem dX1_part_106 : decode cX1_part 106 = .ok (.iushr, 1) := by decide +kernel
theorem dX1_part_107 : decode cX1_part 107 = .ok (.ireturn, 1) := by decide +kernel
theorem dX1_part_108 : decode cX1_part 108 = .ok (.aload_n 0, 1) := by decide +kernel
theorem dX1_part_109 : decode cX1_part 109 = .ok (.getfield 25, 3) := by decide +kernel
theorem dX1_part_112 : decode cX1_part 112 = .ok (.bipush 16, 2) := by decide +kernel
theorem dX1_part_114 : decode cX1_part 114 = .ok (.iushr, 1) := by decide +kernel
theorem dX1_part_115 : decode cX1_part 115 = .ok (.sipush 255, 3) := by decide +kernel
theorem dX1_part_118 : decode cX1_part 118 = .ok (.iand, 1) := by decide +kernel
theorem dX1_part_119 : decode cX1_part 119 = .ok (.ireturn, 1) := by decide +kernel
theorem dX1_part_120 : decode cX1_part 120 = .ok (.aload_n 0, 1) := by decide +kernel
theorem dX1_part_121 : decode cX1_part 121 = .ok (.getfield 25, 3) := by decide +kernel
theorem dX1_part_124 : decode cX1_part 124 = .ok (.bipush 8, 2) := by decide +kernel
theorem dX1_part_126 : decode cX1_part 126 = .ok (.iushr, 1) := by decide +kernel
theorem dX1_part_127 : decode cX1_part 127 = .ok (.sipush 255, 3) := by decide +kernel
theorem dX1_part_130 : decode cX1_part 130 = .ok (.iand, 1) := by decide +kernel
theorem dX1_part_131 : decode cX1_part 131 = .ok (.ireturn, 1) := by decide +kernel
theorem dX1_part_132 : decode cX1_part 132 = .ok (.aload_n 0, 1) := by decide +kernel
theorem dX1_part_133 : decode cX1_part 133 = .ok (.getfield 25, 3) := by decide +kernel
theorem dX1_part_136 : decode cX1_part 136 = .ok (.sipush 255, 3) := by decide +kernel
theorem dX1_part_139 : decode cX1_part 139 = .ok (.iand, 1) := by decide +kernel
theorem dX1_part_140 : decode cX1_part 140 = .ok (.ireturn, 1) := by decide +kernel
theorem dX1_part_141 : decode cX1_part 141 = .ok (.aload_n 0, 1) := by decide +kernel
theorem dX1_part_142 : decode cX1_part 142 = .ok (.getfield 28, 3) := by decide +kernel
theorem dX1_part_145 : decode cX1_part 145 = .ok (.bipush 8, 2) := by decide +kernel
theorem dX1_part_147 : decode cX1_part 147 = .ok (.iushr, 1) := by decide +kernel
theorem dX1_part_148 : decode cX1_part 148 = .ok (.ireturn, 1) := by decide +kernel
theorem dX1_part_149 : decode cX1_part 149 = .ok (.aload_n 0, 1) := by decide +kernel
theorem dX1_part_150 : decode cX1_part 150 = .ok (.getfield 28, 3) := by decide +kernel
theorem dX1_part_153 : decode cX1_part 153 = .ok (.sipush 255, 3) := by decide +kernel
theorem dX1_part_156 : decode cX1_part 156 = .ok (.iand, 1) := by decide +kernel
theorem dX1_part_157 : decode cX1_part 157 = .ok (.ireturn, 1) := by decide +kernel
theorem dX1_markBit_0 : decode cX1_markBit 0 = .ok (.aload_n 0, 1) := by decide +kernel
theorem dX1_markBit_1 : decode cX1_markBit 1 = .ok (.getfield 31, 3) := by decide +kernel
theorem dX1_markBit_4 : decode cX1_markBit 4 = .ok (.ifCond .eq 9, 3) := by decide +kernel
theorem dX1_markBit_7 : decode cX1_markBit 7 = .ok (.sipush 128, 3) := by decide +kernel
theorem dX1_markBit_10 : decode cX1_markBit 10 = .ok (.goto 4, 3) := by decide +kernel
theorem dX1_markBit_13 : decode cX1_markBit 13 = .ok (.iconst 0, 1) := by decide +kernel
theorem dX1_markBit_14 : decode cX1_markBit 14 = .ok (.ireturn, 1) := by decide +kernel
theorem dX1_sumFor_0 : decode cX1_sumFor 0 = .ok (.getstatic 35, 3) := by decide +kernel
theorem dX1_sumFor_3 : decode cX1_sumFor 3 = .ok (.iload_n 1, 1) := by decide +kernel
theorem dX1_sumFor_4 : decode cX1_sumFor 4 = .ok (.iaload, 1) := by decide +kernel
theorem dX1_sumFor_5 : decode cX1_sumFor 5 = .ok (.istore_n 3, 1) := by decide +kernel
theorem dX1_sumFor_6 : decode cX1_sumFor 6 = .ok (.getstatic 39, 3) := by decide +kernel
theorem dX1_sumFor_9 : decode cX1_sumFor 9 = .ok (.iload_n 1, 1) := by decide +kernel
theorem dX1_sumFor_10 : decode cX1_sumFor 10 = .ok (.iaload, 1) := by decide +kernel
theorem dX1_sumFor_11 : decode cX1_sumFor 11 = .ok (.istore 4, 2) := by decide +kernel
theorem dX1_sumFor_13 : decode cX1_sumFor 13 = .ok (.iconst 0, 1) := by decide +kernel
theorem dX1_sumFor_14 : decode cX1_sumFor 14 = .ok (.istore 5, 2) := by decide +kernel
theorem dX1_sumFor_16 : decode cX1_sumFor 16 = .ok (.iload 5, 2) := by decide +kernel
theorem dX1_sumFor_18 : decode cX1_sumFor 18 = .ok (.bipush 11, 2) := by decide +kernel
theorem dX1_sumFor_20 : decode cX1_sumFor 20 = .ok (.if_icmp .ge 22, 3) := by decide +kernel
theorem dX1_sumFor_23 : decode cX1_sumFor 23 = .ok (.iload_n 3, 1) := by decide +kernel
theorem dX1_sumFor_24 : decode cX1_sumFor 24 = .ok (.iload 4, 2) := by decide +kernel
theorem dX1_sumFor_26 : decode cX1_sumFor 26 = .ok (.aload_n 0, 1) := by decide +kernel
theorem dX1_sumFor_27 : decode cX1_sumFor 27 = .ok (.iload 5, 2) := by decide +kernel
theorem dX1_sumFor_29 : decode cX1_sumFor 29 = .ok (.invokevirtual 42, 3) := by decide +kernel
theorem dX1_sumFor_32 : decode cX1_sumFor 32 = .ok (.invokestatic 46, 3) := by decide +kernel
theorem dX1_sumFor_35 : decode cX1_sumFor 35 = .ok (.istore_n 3, 1) := by decide +kernel
theorem dX1_sumFor_36 : decode cX1_sumFor 36 = .ok (.iinc 5 1, 3) := by decide +kernel
theorem dX1_sumFor_39 : decode cX1_sumFor 39 = .ok (.goto (-23), 3) := by decide +kernel
theorem dX1_sumFor_42 : decode cX1_sumFor 42 = .ok (.iload_n 1, 1) := by decide +kernel
theorem dX1_sumFor_43 : decode cX1_sumFor 43 = .ok (.iconst 4, 1) := by decide +kernel
theorem dX1_sumFor_44 : decode cX1_sumFor 44 = .ok (.if_icmp .ne 26, 3) := by decide +kernel
theorem dX1_sumFor_47 : decode cX1_sumFor 47 = .ok (.iload_n 3, 1) := by decide +kernel
theorem dX1_sumFor_48 : decode cX1_sumFor 48 = .ok (.iload 4, 2) := by decide +kernel
theorem dX1_sumFor_50 : decode cX1_sumFor 50 = .ok (.iload_n 2, 1) := by decide +kernel
theorem dX1_sumFor_51 : decode cX1_sumFor 51 = .ok (.bipush 8, 2) := by decide +kernel
theorem dX1_sumFor_53 : decode cX1_sumFor 53 = .ok (.iushr, 1) := by decide +kernel
theorem dX1_sumFor_54 : decode cX1_sumFor 54 = .ok (.invokestatic 46, 3) := by decide +kernel
theorem dX1_sumFor_57 : decode cX1_sumFor 57 = .ok (.istore_n 3, 1) := by decide +kernel
theorem dX1_sumFor_58 : decode cX1_sumFor 58 = .ok (.iload_n 3, 1) := by decide +kernel
theorem dX1_sumFor_59 : decode cX1_sumFor 59 = .ok (.iload 4, 2) := by decide +kernel
theorem dX1_sumFor_61 : decode cX1_sumFor 61 = .ok (.iload_n 2, 1) := by decide +kernel
theorem dX1_sumFor_62 : decode cX1_sumFor 62 = .ok (.sipush 255, 3) := by decide +kernel
theorem dX1_sumFor_65 : decode cX1_sumFor 65 = .ok (.iand, 1) := by decide +kernel
theorem dX1_sumFor_66 : decode cX1_sumFor 66 = .ok (.invokestatic 46, 3) := by decide +kernel
theorem dX1_sumFor_69 : decode cX1_sumFor 69 = .ok (.istore_n 3, 1) := by decide +kernel
theorem dX1_sumFor_70 : decode cX1_sumFor 70 = .ok (.iload_n 3, 1) := by decide +kernel
theorem dX1_sumFor_71 : decode cX1_sumFor 71 = .ok (.ireturn, 1) := by decide +kernel
theorem dX1_sumBehind_0 : decode cX1_sumBehind 0 = .ok (.iload_n 0, 1) := by decide +kernel
theorem dX1_sumBehind_1 : decode cX1_sumBehind 1 = .ok (.istore_n 3, 1) := by decide +kernel
theorem dX1_sumBehind_2 : decode cX1_sumBehind 2 = .ok (.iconst 0, 1) := by decide +kernel
theorem dX1_sumBehind_3 : decode cX1_sumBehind 3 = .ok (.istore 4, 2) := by decide +kernel
theorem dX1_sumBehind_5 : decode cX1_sumBehind 5 = .ok (.iload 4, 2) := by decide +kernel
theorem dX1_sumBehind_7 : decode cX1_sumBehind 7 = .ok (.bipush 8, 2) := by decide +kernel
theorem dX1_sumBehind_9 : decode cX1_sumBehind 9 = .ok (.if_icmp .ge 40, 3) := by decide +kernel
theorem dX1_sumBehind_12 : decode cX1_sumBehind 12 = .ok (.iload_n 3, 1) := by decide +kernel
theorem dX1_sumBehind_13 : decode cX1_sumBehind 13 = .ok (.iload_n 2, 1) := by decide +kernel
theorem dX1_sumBehind_14 : decode cX1_sumBehind 14 = .ok (.iload 4, 2) := by decide +kernel
theorem dX1_sumBehind_16 : decode cX1_sumBehind 16 = .ok (.iushr, 1) := by decide +kernel
theorem dX1_sumBehind_17 : decode cX1_sumBehind 17 = .ok (.ixor, 1) := by decide +kernel
theorem dX1_sumBehind_18 : decode cX1_sumBehind 18 = .ok (.iconst 1, 1) := by decide +kernel
theorem dX1_sumBehind_19 : decode cX1_sumBehind 19 = .ok (.iand, 1) := by decide +kernel
theorem dX1_sumBehind_20 : decode cX1_sumBehind 20 = .ok (.ifCond .eq 7, 3) := by decide +kernel
theorem dX1_sumBehind_23 : decode cX1_sumBehind 23 = .ok (.iconst 1, 1) := by decide +kernel
theorem dX1_sumBehind_24 : decode cX1_sumBehind 24 = .ok (.goto 4, 3) := by decide +kernel
theorem dX1_sumBehind_27 : decode cX1_sumBehind 27 = .ok (.iconst 0, 1) := by decide +kernel
theorem dX1_sumBehind_28 : decode cX1_sumBehind 28 = .ok (.istore 5, 2) := by decide +kernel
theorem dX1_sumBehind_30 : decode cX1_sumBehind 30 = .ok (.iload_n 3, 1) := by decide +kernel
theorem dX1_sumBehind_31 : decode cX1_sumBehind 31 = .ok (.iconst 1, 1) := by decide +kernel
theorem dX1_sumBehind_32 : decode cX1_sumBehind 32 = .ok (.iushr, 1) := by decide +kernel
theorem dX1_sumBehind_33 : decode cX1_sumBehind 33 = .ok (.istore_n 3, 1) := by decide +kernel
theorem dX1_sumBehind_34 : decode cX1_sumBehind 34 = .ok (.iload 5, 2) := by decide +kernel
theorem dX1_sumBehind_36 : decode cX1_sumBehind 36 = .ok (.ifCond .eq 7, 3) := by decide +kernel
theorem dX1_sumBehind_39 : decode cX1_sumBehind 39 = .ok (.iload_n 3, 1) := by decide +kernel
theorem dX1_sumBehind_40 : decode cX1_sumBehind 40 = .ok (.iload_n 1, 1) := by decide +kernel
theorem dX1_sumBehind_41 : decode cX1_sumBehind 41 = .ok (.ixor, 1) := by decide +kernel
theorem dX1_sumBehind_42 : decode cX1_sumBehind 42 = .ok (.istore_n 3, 1) := by decide +kernel
theorem dX1_sumBehind_43 : decode cX1_sumBehind 43 = .ok (.iinc 4 1, 3) := by decide +kernel
theorem dX1_sumBehind_46 : decode cX1_sumBehind 46 = .ok (.goto (-41), 3) := by decide +kernel
theorem dX1_sumBehind_49 : decode cX1_sumBehind 49 = .ok (.iload_n 3, 1) := by decide +kernel
theorem dX1_sumBehind_50 : decode cX1_sumBehind 50 = .ok (.ireturn, 1) := by decide +kernel
theorem dX2_init_0 : decode cX2_init 0 = .ok (.aload_n 0, 1) := by decide +kernel
theorem dX2_init_1 : decode cX2_init 1 = .ok (.invokespecial 3, 3) := by decide +kernel
theorem dX2_init_4 : decode cX2_init 4 = .ok (.aload_n 0, 1) := by decide +kernel
theorem dX2_init_5 : decode cX2_init 5 = .ok (.bipush 9, 2) := by decide +kernel
theorem dX2_init_7 : decode cX2_init 7 = .ok (.anewarray 9, 3) := by decide +kernel
theorem dX2_init_10 : decode cX2_init 10 = .ok (.putfield 11, 3) := by decide +kernel
theorem dX2_init_13 : decode cX2_init 13 = .ok (.iconst 0, 1) := by decide +kernel
theorem dX2_init_14 : decode cX2_init 14 = .ok (.istore_n 1, 1) := by decide +kernel
theorem dX2_init_15 : decode cX2_init 15 = .ok (.iload_n 1, 1) := by decide +kernel
theorem dX2_init_16 : decode cX2_init 16 = .ok (.bipush 8, 2) := by decide +kernel
theorem dX2_init_18 : decode cX2_init 18 = .ok (.if_icmp .gt 22, 3) := by decide +kernel
theorem dX2_init_21 : decode cX2_init 21 = .ok (.aload_n 0, 1) := by decide +kernel
theorem dX2_init_22 : decode cX2_init 22 = .ok (.getfield 11, 3) := by decide +kernel
theorem dX2_init_25 : decode cX2_init 25 = .ok (.iload_n 1, 1) := by decide +kernel
theorem dX2_init_26 : decode cX2_init 26 = .ok (.new 9, 3) := by decide +kernel
theorem dX2_init_29 : decode cX2_init 29 = .ok (.dup, 1) := by decide +kernel
theorem dX2_init_30 : decode cX2_init 30 = .ok (.invokespecial 17, 3) := by decide +kernel
theorem dX2_init_33 : decode cX2_init 33 = .ok (.aastore, 1) := by decide +kernel
theorem dX2_init_34 : decode cX2_init 34 = .ok (.iinc 1 1, 3) := by decide +kernel
theorem dX2_init_37 : decode cX2_init 37 = .ok (.goto (-22), 3) := by decide +kernel
theorem dX2_init_40 : decode cX2_init 40 = .ok (.return_, 1) := by decide +kernel
theorem dX2_rowBehind_0 : decode cX2_rowBehind 0 = .ok (.aload_n 0, 1) := by decide +kernel
theorem dX2_rowBehind_1 : decode cX2_rowBehind 1 = .ok (.getfield 11, 3) := by decide +kernel
theorem dX2_rowBehind_4 : decode cX2_rowBehind 4 = .ok (.aload_n 0, 1) := by decide +kernel
theorem dX2_rowBehind_5 : decode cX2_rowBehind 5 = .ok (.getfield 18, 3) := by decide +kernel
theorem dX2_rowBehind_8 : decode cX2_rowBehind 8 = .ok (.aaload, 1) := by decide +kernel
theorem dX2_rowBehind_9 : decode cX2_rowBehind 9 = .ok (.areturn, 1) := by decide +kernel
theorem dX2_addRowBehind_0 : decode cX2_addRowBehind 0 = .ok (.aload_n 0, 1) := by decide +kernel
theorem dX2_addRowBehind_1 : decode cX2_addRowBehind 1 = .ok (.getfield 18, 3) := by decide +kernel
theorem dX2_addRowBehind_4 : decode cX2_addRowBehind 4 = .ok (.bipush 8, 2) := by decide +kernel
theorem dX2_addRowBehind_6 : decode cX2_addRowBehind 6 = .ok (.if_icmp .ne 5, 3) := by decide +kernel
theorem dX2_addRowBehind_9 : decode cX2_addRowBehind 9 = .ok (.iconst 0, 1) := by decide +kernel
theorem dX2_addRowBehind_10 : decode cX2_addRowBehind 10 = .ok (.ireturn, 1) := by decide +kernel
theorem dX2_addRowBehind_11 : decode cX2_addRowBehind 11 = .ok (.aload_n 0, 1) := by decide +kernel
theorem dX2_addRowBehind_12 : decode cX2_addRowBehind 12 = .ok (.dup, 1) := by decide +kernel
theorem dX2_addRowBehind_13 : decode cX2_addRowBehind 13 = .ok (.getfield 18, 3) := by decide +kernel
theorem dX2_addRowBehind_16 : decode cX2_addRowBehind 16 = .ok (.iconst 1, 1) := by decide +kernel
theorem dX2_addRowBehind_17 : decode cX2_addRowBehind 17 = .ok (.iadd, 1) := by decide +kernel
theorem dX2_addRowBehind_18 : decode cX2_addRowBehind 18 = .ok (.putfield 18, 3) := by decide +kernel
theorem dX2_addRowBehind_21 : decode cX2_addRowBehind 21 = .ok (.iconst 1, 1) := by decide +kernel
theorem dX2_addRowBehind_22 : decode cX2_addRowBehind 22 = .ok (.ireturn, 1) := by decide +kernel
theorem dX2_takeOff_0 : decode cX2_takeOff 0 = .ok (.aload_n 0, 1) := by decide +kernel
theorem dX2_takeOff_1 : decode cX2_takeOff 1 = .ok (.getfield 11, 3) := by decide +kernel
theorem dX2_takeOff_4 : decode cX2_takeOff 4 = .ok (.iload_n 1, 1) := by decide +kernel
theorem dX2_takeOff_5 : decode cX2_takeOff 5 = .ok (.aaload, 1) := by decide +kernel
theorem dX2_takeOff_6 : decode cX2_takeOff 6 = .ok (.astore_n 2, 1) := by decide +kernel
theorem dX2_takeOff_7 : decode cX2_takeOff 7 = .ok (.aload_n 0, 1) := by decide +kernel
theorem dX2_takeOff_8 : decode cX2_takeOff 8 = .ok (.dup, 1) := by decide +kernel
theorem dX2_takeOff_9 : decode cX2_takeOff 9 = .ok (.getfield 18, 3) := by decide +kernel
theorem dX2_takeOff_12 : decode cX2_takeOff 12 = .ok (.iconst 1, 1) := by decide +kernel
theorem dX2_takeOff_13 : decode cX2_takeOff 13 = .ok (.isub, 1) := by decide +kernel
theorem dX2_takeOff_14 : decode cX2_takeOff 14 = .ok (.putfield 18, 3) := by decide +kernel
theorem dX2_takeOff_17 : decode cX2_takeOff 17 = .ok (.iload_n 1, 1) := by decide +kernel
theorem dX2_takeOff_18 : decode cX2_takeOff 18 = .ok (.istore_n 3, 1) := by decide +kernel
theorem dX2_takeOff_19 : decode cX2_takeOff 19 = .ok (.iload_n 3, 1) := by decide +kernel
theorem dX2_takeOff_20 : decode cX2_takeOff 20 = .ok (.aload_n 0, 1) := by decide +kernel
theorem dX2_takeOff_21 : decode cX2_takeOff 21 = .ok (.getfield 18, 3) := by decide +kernel
theorem dX2_takeOff_24 : decode cX2_takeOff 24 = .ok (.if_icmp .ge 23, 3) := by decide +kernel
theorem dX2_takeOff_27 : decode cX2_takeOff 27 = .ok (.aload_n 0, 1) := by decide +kernel
theorem dX2_takeOff_28 : decode cX2_takeOff 28 = .ok (.getfield 11, 3) := by decide +kernel
theorem dX2_takeOff_31 : decode cX2_takeOff 31 = .ok (.iload_n 3, 1) := by decide +kernel
theorem dX2_takeOff_32 : decode cX2_takeOff 32 = .ok (.aload_n 0, 1) := by decide +kernel
theorem dX2_takeOff_33 : decode cX2_takeOff 33 = .ok (.getfield 11, 3) := by decide +kernel
theorem dX2_takeOff_36 : decode cX2_takeOff 36 = .ok (.iload_n 3, 1) := by decide +kernel
theorem dX2_takeOff_37 : decode cX2_takeOff 37 = .ok (.iconst 1, 1) := by decide +kernel
theorem dX2_takeOff_38 : decode cX2_takeOff 38 = .ok (.iadd, 1) := by decide +kernel
theorem dX2_takeOff_39 : decode cX2_takeOff 39 = .ok (.aaload, 1) := by decide +kernel
theorem dX2_takeOff_40 : decode cX2_takeOff 40 = .ok (.aastore, 1) := by decide +kernel
theorem dX2_takeOff_41 : decode cX2_takeOff 41 = .ok (.iinc 3 1, 3) := by decide +kernel
theorem dX2_takeOff_44 : decode cX2_takeOff 44 = .ok (.goto (-25), 3) := by decide +kernel
theorem dX2_takeOff_47 : decode cX2_takeOff 47 = .ok (.aload_n 0, 1) := by decide +kernel
theorem dX2_takeOff_48 : decode cX2_takeOff 48 = .ok (.getfield 11, 3) := by decide +kernel
theorem dX2_takeOff_51 : decode cX2_takeOff 51 = .ok (.aload_n 0, 1) := by decide +kernel
theorem dX2_takeOff_52 : decode cX2_takeOff 52 = .ok (.getfield 18, 3) := by decide +kernel
theorem dX2_takeOff_55 : decode cX2_takeOff 55 = .ok (.aload_n 2, 1) := by decide +kernel
theorem dX2_takeOff_56 : decode cX2_takeOff 56 = .ok (.aastore, 1) := by decide +kernel
theorem dX2_takeOff_57 : decode cX2_takeOff 57 = .ok (.aload_n 2, 1) := by decide +kernel
theorem dX2_takeOff_58 : decode cX2_takeOff 58 = .ok (.areturn, 1) := by decide +kernel
theorem dX3_init_0 : decode cX3_init 0 = .ok (.aload_n 0, 1) := by decide +kernel
theorem dX3_init_1 : decode cX3_init 1 = .ok (.invokespecial 3, 3) := by decide +kernel
theorem dX3_init_4 : decode cX3_init 4 = .ok (.aload_n 0, 1) := by decide +kernel
theorem dX3_init_5 : decode cX3_init 5 = .ok (.bipush 17, 2) := by decide +kernel
theorem dX3_init_7 : decode cX3_init 7 = .ok (.newarray .int, 2) := by decide +kernel
theorem dX3_init_9 : decode cX3_init 9 = .ok (.putfield 9, 3) := by decide +kernel
theorem dX3_init_12 : decode cX3_init 12 = .ok (.return_, 1) := by decide +kernel
theorem dX3_write_0 : decode cX3_write 0 = .ok (.aload_n 3, 1) := by decide +kernel
theorem dX3_write_1 : decode cX3_write 1 = .ok (.iload_n 2, 1) := by decide +kernel
theorem dX3_write_2 : decode cX3_write 2 = .ok (.iload 4, 2) := by decide +kernel
theorem dX3_write_4 : decode cX3_write 4 = .ok (.invokevirtual 15, 3) := by decide +kernel
theorem dX3_write_7 : decode cX3_write 7 = .ok (.istore 5, 2) := by decide +kernel
theorem dX3_write_9 : decode cX3_write 9 = .ok (.iload_n 2, 1) := by decide +kernel
theorem dX3_write_10 : decode cX3_write 10 = .ok (.iconst 3, 1) := by decide +kernel
theorem dX3_write_11 : decode cX3_write 11 = .ok (.if_icmp .ge 16, 3) := by decide +kernel
theorem dX3_write_14 : decode cX3_write 14 = .ok (.aload_n 3, 1) := by decide +kernel
theorem dX3_write_15 : decode cX3_write 15 = .ok (.getfield 21, 3) := by decide +kernel
theorem dX3_write_18 : decode cX3_write 18 = .ok (.getstatic 25, 3) := by decide +kernel
theorem dX3_write_21 : decode cX3_write 21 = .ok (.iload_n 2, 1) := by decide +kernel
theorem dX3_write_22 : decode cX3_write 22 = .ok (.iaload, 1) := by decide +kernel
theorem dX3_write_23 : decode cX3_write 23 = .ok (.iand, 1) := by decide +kernel
theorem dX3_write_24 : decode cX3_write 24 = .ok (.goto 4, 3) := by decide +kernel
theorem dX3_write_27 : decode cX3_write 27 = .ok (.iconst 0, 1) := by decide +kernel
theorem dX3_write_28 : decode cX3_write 28 = .ok (.istore 6, 2) := by decide +kernel
theorem dX3_write_30 : decode cX3_write 30 = .ok (.aload_n 0, 1) := by decide +kernel
theorem dX3_write_31 : decode cX3_write 31 = .ok (.iconst 0, 1) := by decide +kernel
theorem dX3_write_32 : decode cX3_write 32 = .ok (.putfield 28, 3) := by decide +kernel
theorem dX3_write_35 : decode cX3_write 35 = .ok (.iload_n 1, 1) := by decide +kernel
theorem dX3_write_36 : decode cX3_write 36 = .ok (.ifCond .eq 12, 3) := by decide +kernel
theorem dX3_write_39 : decode cX3_write 39 = .ok (.aload_n 0, 1) := by decide +kernel
theorem dX3_write_40 : decode cX3_write 40 = .ok (.sipush 224, 3) := by decide +kernel
theorem dX3_write_43 : decode cX3_write 43 = .ok (.iload_n 1, 1) := by decide +kernel
theorem dX3_write_44 : decode cX3_write 44 = .ok (.iadd, 1) := by decide +kernel
theorem dX3_write_45 : decode cX3_write 45 = .ok (.invokevirtual 31, 3) := by decide +kernel
theorem dX3_write_48 : decode cX3_write 48 = .ok (.iload_n 2, 1) := by decide +kernel
theorem dX3_write_49 : decode cX3_write 49 = .ok (.tableswitch 133 0 3 #[31, 46, 70, 116], 31) := by decide +kernel
theorem dX3_write_80 : decode cX3_write 80 = .ok (.aload_n 0, 1) := by decide +kernel
theorem dX3_write_81 : decode cX3_write 81 = .ok (.iload 6, 2) := by decide +kernel
theorem dX3_write_83 : decode cX3_write 83 = .ok (.bipush 8, 2) := by decide +kernel
theorem dX3_write_85 : decode cX3_write 85 = .ok (.imul, 1) := by decide +kernel
theorem dX3_write_86 : decode cX3_write 86 = .ok (.iload 5, 2) := by decide +kernel
theorem dX3_write_88 : decode cX3_write 88 = .ok (.iadd, 1) := by decide +kernel
theorem dX3_write_89 : decode cX3_write 89 = .ok (.invokevirtual 31, 3) := by decide +kernel
theorem dX3_write_92 : decode cX3_write 92 = .ok (.goto 126, 3) := by decide +kernel
theorem dX3_write_95 : decode cX3_write 95 = .ok (.aload_n 0, 1) := by decide +kernel
theorem dX3_write_96 : decode cX3_write 96 = .ok (.sipush 128, 3) := by decide +kernel
theorem dX3_write_99 : decode cX3_write 99 = .ok (.iload 6, 2) := by decide +kernel
theorem dX3_write_101 : decode cX3_write 101 = .ok (.iadd, 1) := by decide +kernel
theorem dX3_write_102 : decode cX3_write 102 = .ok (.invokevirtual 31, 3) := by decide +kernel
theorem dX3_write_105 : decode cX3_write 105 = .ok (.aload_n 0, 1) := by decide +kernel
theorem dX3_write_106 : decode cX3_write 106 = .ok (.aload_n 3, 1) := by decide +kernel
theorem dX3_write_107 : decode cX3_write 107 = .ok (.invokevirtual 35, 3) := by decide +kernel
theorem dX3_write_110 : decode cX3_write 110 = .ok (.iload 5, 2) := by decide +kernel
theorem dX3_write_112 : decode cX3_write 112 = .ok (.iadd, 1) := by decide +kernel
theorem dX3_write_113 : decode cX3_write 113 = .ok (.invokevirtual 31, 3) := by decide +kernel
theorem dX3_write_116 : decode cX3_write 116 = .ok (.goto 102, 3) := by decide +kernel
theorem dX3_write_119 : decode cX3_write 119 = .ok (.aload_n 0, 1) := by decide +kernel
theorem dX3_write_120 : decode cX3_write 120 = .ok (.sipush 192, 3) := by decide +kernel
theorem dX3_write_123 : decode cX3_write 123 = .ok (.iload 6, 2) := by decide +kernel
theorem dX3_write_125 : decode cX3_write 125 = .ok (.iconst 5, 1) := by decide +kernel
theorem dX3_write_126 : decode cX3_write 126 = .ok (.iushr, 1) := by decide +kernel
theorem dX3_write_127 : decode cX3_write 127 = .ok (.iadd, 1) := by decide +kernel
theorem dX3_write_128 : decode cX3_write 128 = .ok (.invokevirtual 31, 3) := by decide +kernel
theorem dX3_write_131 : decode cX3_write 131 = .ok (.aload_n 0, 1) := by decide +kernel
theorem dX3_write_132 : decode cX3_write 132 = .ok (.iload 6, 2) := by decide +kernel
theorem dX3_write_134 : decode cX3_write 134 = .ok (.bipush 31, 2) := by decide +kernel
theorem dX3_write_136 : decode cX3_write 136 = .ok (.iand, 1) := by decide +kernel
theorem dX3_write_137 : decode cX3_write 137 = .ok (.bipush 8, 2) := by decide +kernel
theorem dX3_write_139 : decode cX3_write 139 = .ok (.imul, 1) := by decide +kernel
theorem dX3_write_140 : decode cX3_write 140 = .ok (.aload_n 3, 1) := by decide +kernel
theorem dX3_write_141 : decode cX3_write 141 = .ok (.getfield 39, 3) := by decide +kernel
theorem dX3_write_144 : decode cX3_write 144 = .ok (.ifCond .eq 7, 3) := by decide +kernel
theorem dX3_write_147 : decode cX3_write 147 = .ok (.iconst 4, 1) := by decide +kernel
theorem dX3_write_148 : decode cX3_write 148 = .ok (.goto 4, 3) := by decide +kernel
theorem dX3_write_151 : decode cX3_write 151 = .ok (.iconst 0, 1) := by decide +kernel
theorem dX3_write_152 : decode cX3_write 152 = .ok (.iadd, 1) := by decide +kernel
theorem dX3_write_153 : decode cX3_write 153 = .ok (.invokevirtual 31, 3) := by decide +kernel
theorem dX3_write_156 : decode cX3_write 156 = .ok (.aload_n 0, 1) := by decide +kernel
theorem dX3_write_157 : decode cX3_write 157 = .ok (.iload 5, 2) := by decide +kernel
theorem dX3_write_159 : decode cX3_write 159 = .ok (.invokevirtual 31, 3) := by decide +kernel
theorem dX3_write_162 : decode cX3_write 162 = .ok (.goto 56, 3) := by decide +kernel
theorem dX3_write_165 : decode cX3_write 165 = .ok (.aload_n 0, 1) := by decide +kernel
theorem dX3_write_166 : decode cX3_write 166 = .ok (.sipush 248, 3) := by decide +kernel
theorem dX3_write_169 : decode cX3_write 169 = .ok (.invokevirtual 31, 3) := by decide +kernel
theorem dX3_write_172 : decode cX3_write 172 = .ok (.aload_n 0, 1) := by decide +kernel
theorem dX3_write_173 : decode cX3_write 173 = .ok (.aload_n 3, 1) := by decide +kernel
theorem dX3_write_174 : decode cX3_write 174 = .ok (.iload 5, 2) := by decide +kernel
theorem dX3_write_176 : decode cX3_write 176 = .ok (.invokevirtual 43, 3) := by decide +kernel
theorem dX3_write_179 : decode cX3_write 179 = .ok (.goto 39, 3) := by decide +kernel
theorem dX3_write_182 : decode cX3_write 182 = .ok (.aload_n 0, 1) := by decide +kernel
theorem dX3_write_183 : decode cX3_write 183 = .ok (.sipush 253, 3) := by decide +kernel
theorem dX3_write_186 : decode cX3_write 186 = .ok (.invokevirtual 31, 3) := by decide +kernel
theorem dX3_write_189 : decode cX3_write 189 = .ok (.aload_n 0, 1) := by decide +kernel
theorem dX3_write_190 : decode cX3_write 190 = .ok (.aload_n 3, 1) := by decide +kernel
theorem dX3_write_191 : decode cX3_write 191 = .ok (.getfield 47, 3) := by decide +kernel
theorem dX3_write_194 : decode cX3_write 194 = .ok (.invokevirtual 50, 3) := by decide +kernel
theorem dX3_write_197 : decode cX3_write 197 = .ok (.aload_n 0, 1) := by decide +kernel
theorem dX3_write_198 : decode cX3_write 198 = .ok (.aload_n 3, 1) := by decide +kernel
theorem dX3_write_199 : decode cX3_write 199 = .ok (.getfield 53, 3) := by decide +kernel
theorem dX3_write_202 : decode cX3_write 202 = .ok (.invokevirtual 31, 3) := by decide +kernel
theorem dX3_write_205 : decode cX3_write 205 = .ok (.aload_n 0, 1) := by decide +kernel
theorem dX3_write_206 : decode cX3_write 206 = .ok (.iload 4, 2) := by decide +kernel
theorem dX3_write_208 : decode cX3_write 208 = .ok (.invokevirtual 50, 3) := by decide +kernel
theorem dX3_write_211 : decode cX3_write 211 = .ok (.aload_n 0, 1) := by decide +kernel
theorem dX3_write_212 : decode cX3_write 212 = .ok (.aload_n 3, 1) := by decide +kernel
theorem dX3_write_213 : decode cX3_write 213 = .ok (.iload 5, 2) := by decide +kernel
theorem dX3_write_215 : decode cX3_write 215 = .ok (.invokevirtual 43, 3) := by decide +kernel
theorem dX3_write_218 : decode cX3_write 218 = .ok (.return_, 1) := by decide +kernel
theorem dX3_putMoving_0 : decode cX3_putMoving 0 = .ok (.aload_n 0, 1) := by decide +kernel
theorem dX3_putMoving_1 : decode cX3_putMoving 1 = .ok (.aload_n 1, 1) := by decide +kernel
theorem dX3_putMoving_2 : decode cX3_putMoving 2 = .ok (.invokevirtual 35, 3) := by decide +kernel
theorem dX3_putMoving_5 : decode cX3_putMoving 5 = .ok (.invokevirtual 31, 3) := by decide +kernel
theorem dX3_putMoving_8 : decode cX3_putMoving 8 = .ok (.iconst 3, 1) := by decide +kernel
theorem dX3_putMoving_9 : decode cX3_putMoving 9 = .ok (.istore_n 3, 1) := by decide +kernel
theorem dX3_putMoving_10 : decode cX3_putMoving 10 = .ok (.iload_n 3, 1) := by decide +kernel
theorem dX3_putMoving_11 : decode cX3_putMoving 11 = .ok (.bipush 11, 2) := by decide +kernel
theorem dX3_putMoving_13 : decode cX3_putMoving 13 = .ok (.if_icmp .ge 18, 3) := by decide +kernel
theorem dX3_putMoving_16 : decode cX3_putMoving 16 = .ok (.aload_n 0, 1) := by decide +kernel
theorem dX3_putMoving_17 : decode cX3_putMoving 17 = .ok (.aload_n 1, 1) := by decide +kernel
theorem dX3_putMoving_18 : decode cX3_putMoving 18 = .ok (.iload_n 3, 1) := by decide +kernel
theorem dX3_putMoving_19 : decode cX3_putMoving 19 = .ok (.invokevirtual 56, 3) := by decide +kernel
theorem dX3_putMoving_22 : decode cX3_putMoving 22 = .ok (.invokevirtual 31, 3) := by decide +kernel
theorem dX3_putMoving_25 : decode cX3_putMoving 25 = .ok (.iinc 3 1, 3) := by decide +kernel
theorem dX3_putMoving_28 : decode cX3_putMoving 28 = .ok (.goto (-18), 3) := by decide +kernel
theorem dX3_putMoving_31 : decode cX3_putMoving 31 = .ok (.aload_n 0, 1) := by decide +kernel
theorem dX3_putMoving_32 : decode cX3_putMoving 32 = .ok (.iload_n 2, 1) := by decide +kernel
theorem dX3_putMoving_33 : decode cX3_putMoving 33 = .ok (.invokevirtual 31, 3) := by decide +kernel
theorem dX3_putMoving_36 : decode cX3_putMoving 36 = .ok (.return_, 1) := by decide +kernel
theorem dX3_putTwo_0 : decode cX3_putTwo 0 = .ok (.aload_n 0, 1) := by decide +kernel
theorem dX3_putTwo_1 : decode cX3_putTwo 1 = .ok (.iload_n 1, 1) := by decide +kernel
theorem dX3_putTwo_2 : decode cX3_putTwo 2 = .ok (.bipush 8, 2) := by decide +kernel
theorem dX3_putTwo_4 : decode cX3_putTwo 4 = .ok (.iushr, 1) := by decide +kernel
theorem dX3_putTwo_5 : decode cX3_putTwo 5 = .ok (.invokevirtual 31, 3) := by decide +kernel
theorem dX3_putTwo_8 : decode cX3_putTwo 8 = .ok (.aload_n 0, 1) := by decide +kernel
theorem dX3_putTwo_9 : decode cX3_putTwo 9 = .ok (.iload_n 1, 1) := by decide +kernel
theorem dX3_putTwo_10 : decode cX3_putTwo 10 = .ok (.sipush 255, 3) := by decide +kernel
theorem dX3_putTwo_13 : decode cX3_putTwo 13 = .ok (.iand, 1) := by decide +kernel
theorem dX3_putTwo_14 : decode cX3_putTwo 14 = .ok (.invokevirtual 31, 3) := by decide +kernel
theorem dX3_putTwo_17 : decode cX3_putTwo 17 = .ok (.return_, 1) := by decide +kernel
theorem dX3_put_0 : decode cX3_put 0 = .ok (.aload_n 0, 1) := by decide +kernel
theorem dX3_put_1 : decode cX3_put 1 = .ok (.getfield 28, 3) := by decide +kernel
theorem dX3_put_4 : decode cX3_put 4 = .ok (.bipush 17, 2) := by decide +kernel
theorem dX3_put_6 : decode cX3_put 6 = .ok (.if_icmp .ge 23, 3) := by decide +kernel
theorem dX3_put_9 : decode cX3_put 9 = .ok (.aload_n 0, 1) := by decide +kernel
theorem dX3_put_10 : decode cX3_put 10 = .ok (.getfield 9, 3) := by decide +kernel
theorem dX3_put_13 : decode cX3_put 13 = .ok (.aload_n 0, 1) := by decide +kernel
theorem dX3_put_14 : decode cX3_put 14 = .ok (.getfield 28, 3) := by decide +kernel
theorem dX3_put_17 : decode cX3_put 17 = .ok (.iload_n 1, 1) := by decide +kernel
theorem dX3_put_18 : decode cX3_put 18 = .ok (.iastore, 1) := by decide +kernel
theorem dX3_put_19 : decode cX3_put 19 = .ok (.aload_n 0, 1) := by decide +kernel
theorem dX3_put_20 : decode cX3_put 20 = .ok (.dup, 1) := by decide +kernel
theorem dX3_put_21 : decode cX3_put 21 = .ok (.getfield 28, 3) := by decide +kernel
theorem dX3_put_24 : decode cX3_put 24 = .ok (.iconst 1, 1) := by decide +kernel
theorem dX3_put_25 : decode cX3_put 25 = .ok (.iadd, 1) := by decide +kernel
theorem dX3_put_26 : decode cX3_put 26 = .ok (.putfield 28, 3) := by decide +kernel
theorem dX3_put_29 : decode cX3_put 29 = .ok (.return_, 1) := by decide +kernel
theorem dX3_read_0 : decode cX3_read 0 = .ok (.aload_n 0, 1) := by decide +kernel
theorem dX3_read_1 : decode cX3_read 1 = .ok (.getfield 9, 3) := by decide +kernel
theorem dX3_read_4 : decode cX3_read 4 = .ok (.iconst 0, 1) := by decide +kernel
theorem dX3_read_5 : decode cX3_read 5 = .ok (.iaload, 1) := by decide +kernel
theorem dX3_read_6 : decode cX3_read 6 = .ok (.sipush 224, 3) := by decide +kernel
theorem dX3_read_9 : decode cX3_read 9 = .ok (.if_icmp .le 19, 3) := by decide +kernel
theorem dX3_read_12 : decode cX3_read 12 = .ok (.aload_n 0, 1) := by decide +kernel
theorem dX3_read_13 : decode cX3_read 13 = .ok (.getfield 9, 3) := by decide +kernel
theorem dX3_read_16 : decode cX3_read 16 = .ok (.iconst 0, 1) := by decide +kernel
theorem dX3_read_17 : decode cX3_read 17 = .ok (.iaload, 1) := by decide +kernel
theorem dX3_read_18 : decode cX3_read 18 = .ok (.sipush 228, 3) := by decide +kernel
theorem dX3_read_21 : decode cX3_read 21 = .ok (.if_icmp .ge 7, 3) := by decide +kernel
theorem dX3_read_24 : decode cX3_read 24 = .ok (.iconst 1, 1) := by decide +kernel
theorem dX3_read_25 : decode cX3_read 25 = .ok (.goto 4, 3) := by decide +kernel
theorem dX3_read_28 : decode cX3_read 28 = .ok (.iconst 0, 1) := by decide +kernel
theorem dX3_read_29 : decode cX3_read 29 = .ok (.istore_n 1, 1) := by decide +kernel
theorem dX3_read_30 : decode cX3_read 30 = .ok (.aload_n 0, 1) := by decide +kernel
theorem dX3_read_31 : decode cX3_read 31 = .ok (.iload_n 1, 1) := by decide +kernel
theorem dX3_read_32 : decode cX3_read 32 = .ok (.ifCond .eq 16, 3) := by decide +kernel
theorem dX3_read_35 : decode cX3_read 35 = .ok (.aload_n 0, 1) := by decide +kernel
theorem dX3_read_36 : decode cX3_read 36 = .ok (.getfield 9, 3) := by decide +kernel
theorem dX3_read_39 : decode cX3_read 39 = .ok (.iconst 0, 1) := by decide +kernel
theorem dX3_read_40 : decode cX3_read 40 = .ok (.iaload, 1) := by decide +kernel
theorem dX3_read_41 : decode cX3_read 41 = .ok (.sipush 224, 3) := by decide +kernel
theorem dX3_read_44 : decode cX3_read 44 = .ok (.isub, 1) := by decide +kernel
theorem dX3_read_45 : decode cX3_read 45 = .ok (.goto 4, 3) := by decide +kernel
theorem dX3_read_48 : decode cX3_read 48 = .ok (.iconst 0, 1) := by decide +kernel
theorem dX3_read_49 : decode cX3_read 49 = .ok (.putfield 60, 3) := by decide +kernel
theorem dX3_read_52 : decode cX3_read 52 = .ok (.aload_n 0, 1) := by decide +kernel
theorem dX3_read_53 : decode cX3_read 53 = .ok (.iload_n 1, 1) := by decide +kernel
theorem dX3_read_54 : decode cX3_read 54 = .ok (.ifCond .eq 7, 3) := by decide +kernel
theorem dX3_read_57 : decode cX3_read 57 = .ok (.iconst 1, 1) := by decide +kernel
theorem dX3_read_58 : decode cX3_read 58 = .ok (.goto 4, 3) := by decide +kernel
theorem dX3_read_61 : decode cX3_read 61 = .ok (.iconst 0, 1) := by decide +kernel
theorem dX3_read_62 : decode cX3_read 62 = .ok (.putfield 63, 3) := by decide +kernel
theorem dX3_read_65 : decode cX3_read 65 = .ok (.aload_n 0, 1) := by decide +kernel
theorem dX3_read_66 : decode cX3_read 66 = .ok (.aload_n 0, 1) := by decide +kernel
theorem dX3_read_67 : decode cX3_read 67 = .ok (.getfield 63, 3) := by decide +kernel
theorem dX3_read_70 : decode cX3_read 70 = .ok (.aload_n 0, 1) := by decide +kernel
theorem dX3_read_71 : decode cX3_read 71 = .ok (.getfield 28, 3) := by decide +kernel
theorem dX3_read_74 : decode cX3_read 74 = .ok (.if_icmp .ge 18, 3) := by decide +kernel
theorem dX3_read_77 : decode cX3_read 77 = .ok (.aload_n 0, 1) := by decide +kernel
theorem dX3_read_78 : decode cX3_read 78 = .ok (.getfield 9, 3) := by decide +kernel
theorem dX3_read_81 : decode cX3_read 81 = .ok (.aload_n 0, 1) := by decide +kernel
theorem dX3_read_82 : decode cX3_read 82 = .ok (.getfield 63, 3) := by decide +kernel
theorem dX3_read_85 : decode cX3_read 85 = .ok (.iaload, 1) := by decide +kernel
theorem dX3_read_86 : decode cX3_read 86 = .ok (.invokestatic 66, 3) := by decide +kernel
theorem dX3_read_89 : decode cX3_read 89 = .ok (.goto 4, 3) := by decide +kernel
theorem dX3_read_92 : decode cX3_read 92 = .ok (.iconst (-1), 1) := by decide +kernel
theorem dX3_read_93 : decode cX3_read 93 = .ok (.putfield 69, 3) := by decide +kernel
theorem dX3_read_96 : decode cX3_read 96 = .ok (.aload_n 0, 1) := by decide +kernel
theorem dX3_read_97 : decode cX3_read 97 = .ok (.getfield 69, 3) := by decide +kernel
theorem dX3_read_100 : decode cX3_read 100 = .ok (.iconst (-1), 1) := by decide +kernel
theorem dX3_read_101 : decode cX3_read 101 = .ok (.if_icmp .eq 15, 3) := by decide +kernel
theorem dX3_read_104 : decode cX3_read 104 = .ok (.aload_n 0, 1) := by decide +kernel
theorem dX3_read_105 : decode cX3_read 105 = .ok (.invokevirtual 72, 3) := by decide +kernel
theorem dX3_read_108 : decode cX3_read 108 = .ok (.ifCond .eq 8, 3) := by decide +kernel
theorem dX3_read_111 : decode cX3_read 111 = .ok (.aload_n 0, 1) := by decide +kernel
theorem dX3_read_112 : decode cX3_read 112 = .ok (.iconst (-1), 1) := by decide +kernel
theorem dX3_read_113 : decode cX3_read 113 = .ok (.putfield 69, 3) := by decide +kernel
theorem dX3_read_116 : decode cX3_read 116 = .ok (.return_, 1) := by decide +kernel
theorem dX3_kindTold_0 : decode cX3_kindTold 0 = .ok (.iload_n 0, 1) := by decide +kernel
theorem dX3_kindTold_1 : decode cX3_kindTold 1 = .ok (.sipush 128, 3) := by decide +kernel
theorem dX3_kindTold_4 : decode cX3_kindTold 4 = .ok (.if_icmp .ge 5, 3) := by decide +kernel
theorem dX3_kindTold_7 : decode cX3_kindTold 7 = .ok (.iconst 0, 1) := by decide +kernel
theorem dX3_kindTold_8 : decode cX3_kindTold 8 = .ok (.ireturn, 1) := by decide +kernel
theorem dX3_kindTold_9 : decode cX3_kindTold 9 = .ok (.iload_n 0, 1) := by decide +kernel
theorem dX3_kindTold_10 : decode cX3_kindTold 10 = .ok (.sipush 192, 3) := by decide +kernel
theorem dX3_kindTold_13 : decode cX3_kindTold 13 = .ok (.if_icmp .ge 5, 3) := by decide +kernel
theorem dX3_kindTold_16 : decode cX3_kindTold 16 = .ok (.iconst 1, 1) := by decide +kernel
theorem dX3_kindTold_17 : decode cX3_kindTold 17 = .ok (.ireturn, 1) := by decide +kernel
theorem dX3_kindTold_18 : decode cX3_kindTold 18 = .ok (.iload_n 0, 1) := by decide +kernel
theorem dX3_kindTold_19 : decode cX3_kindTold 19 = .ok (.sipush 224, 3) := by decide +kernel
theorem dX3_kindTold_22 : decode cX3_kindTold 22 = .ok (.if_icmp .ge 5, 3) := by decide +kernel
theorem dX3_kindTold_25 : decode cX3_kindTold 25 = .ok (.iconst 2, 1) := by decide +kernel
theorem dX3_kindTold_26 : decode cX3_kindTold 26 = .ok (.ireturn, 1) := by decide +kernel
theorem dX3_kindTold_27 : decode cX3_kindTold 27 = .ok (.iload_n 0, 1) := by decide +kernel
theorem dX3_kindTold_28 : decode cX3_kindTold 28 = .ok (.sipush 248, 3) := by decide +kernel
theorem dX3_kindTold_31 : decode cX3_kindTold 31 = .ok (.if_icmp .ne 5, 3) := by decide +kernel
theorem dX3_kindTold_34 : decode cX3_kindTold 34 = .ok (.iconst 3, 1) := by decide +kernel
theorem dX3_kindTold_35 : decode cX3_kindTold 35 = .ok (.ireturn, 1) := by decide +kernel
theorem dX3_kindTold_36 : decode cX3_kindTold 36 = .ok (.iload_n 0, 1) := by decide +kernel
theorem dX3_kindTold_37 : decode cX3_kindTold 37 = .ok (.sipush 253, 3) := by decide +kernel
theorem dX3_kindTold_40 : decode cX3_kindTold 40 = .ok (.if_icmp .ne 7, 3) := by decide +kernel
theorem dX3_kindTold_43 : decode cX3_kindTold 43 = .ok (.iconst 4, 1) := by decide +kernel
theorem dX3_kindTold_44 : decode cX3_kindTold 44 = .ok (.goto 4, 3) := by decide +kernel
theorem dX3_kindTold_47 : decode cX3_kindTold 47 = .ok (.iconst (-1), 1) := by decide +kernel
theorem dX3_kindTold_48 : decode cX3_kindTold 48 = .ok (.ireturn, 1) := by decide +kernel
theorem dX3_isMisshapen_0 : decode cX3_isMisshapen 0 = .ok (.aload_n 0, 1) := by decide +kernel
theorem dX3_isMisshapen_1 : decode cX3_isMisshapen 1 = .ok (.getfield 28, 3) := by decide +kernel
theorem dX3_isMisshapen_4 : decode cX3_isMisshapen 4 = .ok (.aload_n 0, 1) := by decide +kernel
theorem dX3_isMisshapen_5 : decode cX3_isMisshapen 5 = .ok (.getfield 63, 3) := by decide +kernel
theorem dX3_isMisshapen_8 : decode cX3_isMisshapen 8 = .ok (.isub, 1) := by decide +kernel
theorem dX3_isMisshapen_9 : decode cX3_isMisshapen 9 = .ok (.getstatic 76, 3) := by decide +kernel
theorem dX3_isMisshapen_12 : decode cX3_isMisshapen 12 = .ok (.aload_n 0, 1) := by decide +kernel
theorem dX3_isMisshapen_13 : decode cX3_isMisshapen 13 = .ok (.getfield 69, 3) := by decide +kernel
theorem dX3_isMisshapen_16 : decode cX3_isMisshapen 16 = .ok (.iaload, 1) := by decide +kernel
theorem dX3_isMisshapen_17 : decode cX3_isMisshapen 17 = .ok (.if_icmp .eq 5, 3) := by decide +kernel
theorem dX3_isMisshapen_20 : decode cX3_isMisshapen 20 = .ok (.iconst 1, 1) := by decide +kernel
theorem dX3_isMisshapen_21 : decode cX3_isMisshapen 21 = .ok (.ireturn, 1) := by decide +kernel
theorem dX3_isMisshapen_22 : decode cX3_isMisshapen 22 = .ok (.aload_n 0, 1) := by decide +kernel
theorem dX3_isMisshapen_23 : decode cX3_isMisshapen 23 = .ok (.getfield 69, 3) := by decide +kernel
theorem dX3_isMisshapen_26 : decode cX3_isMisshapen 26 = .ok (.tableswitch 79 2 4 #[26, 42, 51], 26) := by decide +kernel
theorem dX3_isMisshapen_52 : decode cX3_isMisshapen 52 = .ok (.aload_n 0, 1) := by decide +kernel
theorem dX3_isMisshapen_53 : decode cX3_isMisshapen 53 = .ok (.iconst 1, 1) := by decide +kernel
theorem dX3_isMisshapen_54 : decode cX3_isMisshapen 54 = .ok (.invokevirtual 79, 3) := by decide +kernel
theorem dX3_isMisshapen_57 : decode cX3_isMisshapen 57 = .ok (.iconst 3, 1) := by decide +kernel
theorem dX3_isMisshapen_58 : decode cX3_isMisshapen 58 = .ok (.iand, 1) := by decide +kernel
theorem dX3_isMisshapen_59 : decode cX3_isMisshapen 59 = .ok (.ifCond .eq 7, 3) := by decide +kernel
theorem dX3_isMisshapen_62 : decode cX3_isMisshapen 62 = .ok (.iconst 1, 1) := by decide +kernel
theorem dX3_isMisshapen_63 : decode cX3_isMisshapen 63 = .ok (.goto 4, 3) := by decide +kernel
theorem dX3_isMisshapen_66 : decode cX3_isMisshapen 66 = .ok (.iconst 0, 1) := by decide +kernel
theorem dX3_isMisshapen_67 : decode cX3_isMisshapen 67 = .ok (.ireturn, 1) := by decide +kernel
theorem dX3_isMisshapen_68 : decode cX3_isMisshapen 68 = .ok (.aload_n 0, 1) := by decide +kernel
theorem dX3_isMisshapen_69 : decode cX3_isMisshapen 69 = .ok (.iconst 1, 1) := by decide +kernel
theorem dX3_isMisshapen_70 : decode cX3_isMisshapen 70 = .ok (.invokevirtual 79, 3) := by decide +kernel
theorem dX3_isMisshapen_73 : decode cX3_isMisshapen 73 = .ok (.invokestatic 82, 3) := by decide +kernel
theorem dX3_isMisshapen_76 : decode cX3_isMisshapen 76 = .ok (.ireturn, 1) := by decide +kernel
theorem dX3_isMisshapen_77 : decode cX3_isMisshapen 77 = .ok (.aload_n 0, 1) := by decide +kernel
theorem dX3_isMisshapen_78 : decode cX3_isMisshapen 78 = .ok (.iconst 3, 1) := by decide +kernel
theorem dX3_isMisshapen_79 : decode cX3_isMisshapen 79 = .ok (.invokevirtual 79, 3) := by decide +kernel
theorem dX3_isMisshapen_82 : decode cX3_isMisshapen 82 = .ok (.bipush 127, 2) := by decide +kernel
theorem dX3_isMisshapen_84 : decode cX3_isMisshapen 84 = .ok (.if_icmp .gt 15, 3) := by decide +kernel
theorem dX3_isMisshapen_87 : decode cX3_isMisshapen 87 = .ok (.aload_n 0, 1) := by decide +kernel
theorem dX3_isMisshapen_88 : decode cX3_isMisshapen 88 = .ok (.bipush 6, 2) := by decide +kernel
theorem dX3_isMisshapen_90 : decode cX3_isMisshapen 90 = .ok (.invokevirtual 79, 3) := by decide +kernel
theorem dX3_isMisshapen_93 : decode cX3_isMisshapen 93 = .ok (.invokestatic 82, 3) := by decide +kernel
theorem dX3_isMisshapen_96 : decode cX3_isMisshapen 96 = .ok (.ifCond .eq 7, 3) := by decide +kernel
theorem dX3_isMisshapen_99 : decode cX3_isMisshapen 99 = .ok (.iconst 1, 1) := by decide +kernel
theorem dX3_isMisshapen_100 : decode cX3_isMisshapen 100 = .ok (.goto 4, 3) := by decide +kernel
theorem dX3_isMisshapen_103 : decode cX3_isMisshapen 103 = .ok (.iconst 0, 1) := by decide +kernel
theorem dX3_isMisshapen_104 : decode cX3_isMisshapen 104 = .ok (.ireturn, 1) := by decide +kernel
theorem dX3_isMisshapen_105 : decode cX3_isMisshapen 105 = .ok (.iconst 0, 1) := by decide +kernel
theorem dX3_isMisshapen_106 : decode cX3_isMisshapen 106 = .ok (.ireturn, 1) := by decide +kernel
theorem dX3_isNoMark_0 : decode cX3_isNoMark 0 = .ok (.iload_n 0, 1) := by decide +kernel
theorem dX3_isNoMark_1 : decode cX3_isNoMark 1 = .ok (.ifCond .eq 14, 3) := by decide +kernel
theorem dX3_isNoMark_4 : decode cX3_isNoMark 4 = .ok (.iload_n 0, 1) := by decide +kernel
theorem dX3_isNoMark_5 : decode cX3_isNoMark 5 = .ok (.sipush 128, 3) := by decide +kernel
theorem dX3_isNoMark_8 : decode cX3_isNoMark 8 = .ok (.if_icmp .eq 7, 3) := by decide +kernel
theorem dX3_isNoMark_11 : decode cX3_isNoMark 11 = .ok (.iconst 1, 1) := by decide +kernel
theorem dX3_isNoMark_12 : decode cX3_isNoMark 12 = .ok (.goto 4, 3) := by decide +kernel
theorem dX3_isNoMark_15 : decode cX3_isNoMark 15 = .ok (.iconst 0, 1) := by decide +kernel
theorem dX3_isNoMark_16 : decode cX3_isNoMark 16 = .ok (.ireturn, 1) := by decide +kernel
theorem dX3_own_0 : decode cX3_own 0 = .ok (.aload_n 0, 1) := by decide +kernel
theorem dX3_own_1 : decode cX3_own 1 = .ok (.getfield 9, 3) := by decide +kernel
theorem dX3_own_4 : decode cX3_own 4 = .ok (.aload_n 0, 1) := by decide +kernel
theorem dX3_own_5 : decode cX3_own 5 = .ok (.getfield 63, 3) := by decide +kernel
theorem dX3_own_8 : decode cX3_own 8 = .ok (.iload_n 1, 1) := by decide +kernel
theorem dX3_own_9 : decode cX3_own 9 = .ok (.iadd, 1) := by decide +kernel
theorem dX3_own_10 : decode cX3_own 10 = .ok (.iaload, 1) := by decide +kernel
theorem dX3_own_11 : decode cX3_own 11 = .ok (.ireturn, 1) := by decide +kernel
theorem dX3_ownTwo_0 : decode cX3_ownTwo 0 = .ok (.aload_n 0, 1) := by decide +kernel
theorem dX3_ownTwo_1 : decode cX3_ownTwo 1 = .ok (.iload_n 1, 1) := by decide +kernel
theorem dX3_ownTwo_2 : decode cX3_ownTwo 2 = .ok (.invokevirtual 79, 3) := by decide +kernel
theorem dX3_ownTwo_5 : decode cX3_ownTwo 5 = .ok (.sipush 256, 3) := by decide +kernel
theorem dX3_ownTwo_8 : decode cX3_ownTwo 8 = .ok (.imul, 1) := by decide +kernel
theorem dX3_ownTwo_9 : decode cX3_ownTwo 9 = .ok (.aload_n 0, 1) := by decide +kernel
theorem dX3_ownTwo_10 : decode cX3_ownTwo 10 = .ok (.iload_n 1, 1) := by decide +kernel
theorem dX3_ownTwo_11 : decode cX3_ownTwo 11 = .ok (.iconst 1, 1) := by decide +kernel
theorem dX3_ownTwo_12 : decode cX3_ownTwo 12 = .ok (.iadd, 1) := by decide +kernel
theorem dX3_ownTwo_13 : decode cX3_ownTwo 13 = .ok (.invokevirtual 79, 3) := by decide +kernel
theorem dX3_ownTwo_16 : decode cX3_ownTwo 16 = .ok (.iadd, 1) := by decide +kernel
theorem dX3_ownTwo_17 : decode cX3_ownTwo 17 = .ok (.ireturn, 1) := by decide +kernel
theorem dX3_sumTold_0 : decode cX3_sumTold 0 = .ok (.aload_n 0, 1) := by decide +kernel
theorem dX3_sumTold_1 : decode cX3_sumTold 1 = .ok (.getfield 9, 3) := by decide +kernel
theorem dX3_sumTold_4 : decode cX3_sumTold 4 = .ok (.aload_n 0, 1) := by decide +kernel
theorem dX3_sumTold_5 : decode cX3_sumTold 5 = .ok (.getfield 28, 3) := by decide +kernel
theorem dX3_sumTold_8 : decode cX3_sumTold 8 = .ok (.iconst 1, 1) := by decide +kernel
theorem dX3_sumTold_9 : decode cX3_sumTold 9 = .ok (.isub, 1) := by decide +kernel
theorem dX3_sumTold_10 : decode cX3_sumTold 10 = .ok (.iaload, 1) := by decide +kernel
theorem dX3_sumTold_11 : decode cX3_sumTold 11 = .ok (.getstatic 86, 3) := by decide +kernel
theorem dX3_sumTold_14 : decode cX3_sumTold 14 = .ok (.aload_n 0, 1) := by decide +kernel
theorem dX3_sumTold_15 : decode cX3_sumTold 15 = .ok (.getfield 69, 3) := by decide +kernel
theorem dX3_sumTold_18 : decode cX3_sumTold 18 = .ok (.iaload, 1) := by decide +kernel
theorem dX3_sumTold_19 : decode cX3_sumTold 19 = .ok (.iand, 1) := by decide +kernel
theorem dX3_sumTold_20 : decode cX3_sumTold 20 = .ok (.ireturn, 1) := by decide +kernel
theorem dX3_lowTold_0 : decode cX3_lowTold 0 = .ok (.aload_n 0, 1) := by decide +kernel
theorem dX3_lowTold_1 : decode cX3_lowTold 1 = .ok (.getfield 69, 3) := by decide +kernel
theorem dX3_lowTold_4 : decode cX3_lowTold 4 = .ok (.lookupswitch 45 #[(0, 28), (1, 36)], 28) := by decide +kernel
theorem dX3_lowTold_32 : decode cX3_lowTold 32 = .ok (.aload_n 0, 1) := by decide +kernel
theorem dX3_lowTold_33 : decode cX3_lowTold 33 = .ok (.iconst 0, 1) := by decide +kernel
theorem dX3_lowTold_34 : decode cX3_lowTold 34 = .ok (.invokevirtual 79, 3) := by decide +kernel
theorem dX3_lowTold_37 : decode cX3_lowTold 37 = .ok (.iconst 3, 1) := by decide +kernel
theorem dX3_lowTold_38 : decode cX3_lowTold 38 = .ok (.iushr, 1) := by decide +kernel
theorem dX3_lowTold_39 : decode cX3_lowTold 39 = .ok (.ireturn, 1) := by decide +kernel
theorem dX3_lowTold_40 : decode cX3_lowTold 40 = .ok (.aload_n 0, 1) := by decide +kernel
theorem dX3_lowTold_41 : decode cX3_lowTold 41 = .ok (.iconst 0, 1) := by decide +kernel
theorem dX3_lowTold_42 : decode cX3_lowTold 42 = .ok (.invokevirtual 79, 3) := by decide +kernel
theorem dX3_lowTold_45 : decode cX3_lowTold 45 = .ok (.bipush 63, 2) := by decide +kernel
theorem dX3_lowTold_47 : decode cX3_lowTold 47 = .ok (.iand, 1) := by decide +kernel
theorem dX3_lowTold_48 : decode cX3_lowTold 48 = .ok (.ireturn, 1) := by decide +kernel
theorem dX3_lowTold_49 : decode cX3_lowTold 49 = .ok (.aload_n 0, 1) := by decide +kernel
theorem dX3_lowTold_50 : decode cX3_lowTold 50 = .ok (.iconst 0, 1) := by decide +kernel
theorem dX3_lowTold_51 : decode cX3_lowTold 51 = .ok (.invokevirtual 79, 3) := by decide +kernel
theorem dX3_lowTold_54 : decode cX3_lowTold 54 = .ok (.bipush 31, 2) := by decide +kernel
theorem dX3_lowTold_56 : decode cX3_lowTold 56 = .ok (.iand, 1) := by decide +kernel
theorem dX3_lowTold_57 : decode cX3_lowTold 57 = .ok (.bipush 32, 2) := by decide +kernel
theorem dX3_lowTold_59 : decode cX3_lowTold 59 = .ok (.imul, 1) := by decide +kernel
theorem dX3_lowTold_60 : decode cX3_lowTold 60 = .ok (.aload_n 0, 1) := by decide +kernel
theorem dX3_lowTold_61 : decode cX3_lowTold 61 = .ok (.iconst 1, 1) := by decide +kernel
theorem dX3_lowTold_62 : decode cX3_lowTold 62 = .ok (.invokevirtual 79, 3) := by decide +kernel
theorem dX3_lowTold_65 : decode cX3_lowTold 65 = .ok (.iconst 3, 1) := by decide +kernel
theorem dX3_lowTold_66 : decode cX3_lowTold 66 = .ok (.iushr, 1) := by decide +kernel
theorem dX3_lowTold_67 : decode cX3_lowTold 67 = .ok (.iadd, 1) := by decide +kernel
theorem dX3_lowTold_68 : decode cX3_lowTold 68 = .ok (.ireturn, 1) := by decide +kernel
theorem dX3_markTold_0 : decode cX3_markTold 0 = .ok (.aload_n 0, 1) := by decide +kernel
theorem dX3_markTold_1 : decode cX3_markTold 1 = .ok (.getfield 69, 3) := by decide +kernel
theorem dX3_markTold_4 : decode cX3_markTold 4 = .ok (.lookupswitch 47 #[(0, 28), (1, 30)], 28) := by decide +kernel
theorem dX3_markTold_32 : decode cX3_markTold 32 = .ok (.iconst 0, 1) := by decide +kernel
theorem dX3_markTold_33 : decode cX3_markTold 33 = .ok (.ireturn, 1) := by decide +kernel
theorem dX3_markTold_34 : decode cX3_markTold 34 = .ok (.aload_n 0, 1) := by decide +kernel
theorem dX3_markTold_35 : decode cX3_markTold 35 = .ok (.iconst 1, 1) := by decide +kernel
theorem dX3_markTold_36 : decode cX3_markTold 36 = .ok (.invokevirtual 79, 3) := by decide +kernel
theorem dX3_markTold_39 : decode cX3_markTold 39 = .ok (.sipush 128, 3) := by decide +kernel
theorem dX3_markTold_42 : decode cX3_markTold 42 = .ok (.if_icmp .lt 7, 3) := by decide +kernel
theorem dX3_markTold_45 : decode cX3_markTold 45 = .ok (.iconst 1, 1) := by decide +kernel
theorem dX3_markTold_46 : decode cX3_markTold 46 = .ok (.goto 4, 3) := by decide +kernel
theorem dX3_markTold_49 : decode cX3_markTold 49 = .ok (.iconst 0, 1) := by decide +kernel
theorem dX3_markTold_50 : decode cX3_markTold 50 = .ok (.ireturn, 1) := by decide +kernel
theorem dX3_markTold_51 : decode cX3_markTold 51 = .ok (.aload_n 0, 1) := by decide +kernel
theorem dX3_markTold_52 : decode cX3_markTold 52 = .ok (.iconst 1, 1) := by decide +kernel
theorem dX3_markTold_53 : decode cX3_markTold 53 = .ok (.invokevirtual 79, 3) := by decide +kernel
theorem dX3_markTold_56 : decode cX3_markTold 56 = .ok (.iconst 4, 1) := by decide +kernel
theorem dX3_markTold_57 : decode cX3_markTold 57 = .ok (.iand, 1) := by decide +kernel
theorem dX3_markTold_58 : decode cX3_markTold 58 = .ok (.ifCond .eq 7, 3) := by decide +kernel
theorem dX3_markTold_61 : decode cX3_markTold 61 = .ok (.iconst 1, 1) := by decide +kernel
theorem dX3_markTold_62 : decode cX3_markTold 62 = .ok (.goto 4, 3) := by decide +kernel
theorem dX3_markTold_65 : decode cX3_markTold 65 = .ok (.iconst 0, 1) := by decide +kernel
theorem dX3_markTold_66 : decode cX3_markTold 66 = .ok (.ireturn, 1) := by decide +kernel
theorem dX3_strideTold_0 : decode cX3_strideTold 0 = .ok (.aload_n 0, 1) := by decide +kernel
theorem dX3_strideTold_1 : decode cX3_strideTold 1 = .ok (.iconst 4, 1) := by decide +kernel
theorem dX3_strideTold_2 : decode cX3_strideTold 2 = .ok (.invokevirtual 89, 3) := by decide +kernel
theorem dX3_strideTold_5 : decode cX3_strideTold 5 = .ok (.ireturn, 1) := by decide +kernel
theorem dX3_readFixed_0 : decode cX3_readFixed 0 = .ok (.aload_n 1, 1) := by decide +kernel
theorem dX3_readFixed_1 : decode cX3_readFixed 1 = .ok (.aload_n 0, 1) := by decide +kernel
theorem dX3_readFixed_2 : decode cX3_readFixed 2 = .ok (.iconst 1, 1) := by decide +kernel
theorem dX3_readFixed_3 : decode cX3_readFixed 3 = .ok (.invokevirtual 89, 3) := by decide +kernel
theorem dX3_readFixed_6 : decode cX3_readFixed 6 = .ok (.putfield 47, 3) := by decide +kernel
theorem dX3_readFixed_9 : decode cX3_readFixed 9 = .ok (.aload_n 1, 1) := by decide +kernel
theorem dX3_readFixed_10 : decode cX3_readFixed 10 = .ok (.aload_n 0, 1) := by decide +kernel
theorem dX3_readFixed_11 : decode cX3_readFixed 11 = .ok (.iconst 3, 1) := by decide +kernel
theorem dX3_readFixed_12 : decode cX3_readFixed 12 = .ok (.invokevirtual 79, 3) := by decide +kernel
theorem dX3_readFixed_15 : decode cX3_readFixed 15 = .ok (.putfield 53, 3) := by decide +kernel
theorem dX3_readFixed_18 : decode cX3_readFixed 18 = .ok (.return_, 1) := by decide +kernel
theorem dX3_readMoving_0 : decode cX3_readMoving 0 = .ok (.aload_n 0, 1) := by decide +kernel
theorem dX3_readMoving_1 : decode cX3_readMoving 1 = .ok (.getfield 69, 3) := by decide +kernel
theorem dX3_readMoving_4 : decode cX3_readMoving 4 = .ok (.iconst 4, 1) := by decide +kernel
theorem dX3_readMoving_5 : decode cX3_readMoving 5 = .ok (.if_icmp .ne 8, 3) := by decide +kernel
theorem dX3_readMoving_8 : decode cX3_readMoving 8 = .ok (.bipush 6, 2) := by decide +kernel
theorem dX3_readMoving_10 : decode cX3_readMoving 10 = .ok (.goto 4, 3) := by decide +kernel
theorem dX3_readMoving_13 : decode cX3_readMoving 13 = .ok (.iconst 1, 1) := by decide +kernel
theorem dX3_readMoving_14 : decode cX3_readMoving 14 = .ok (.istore_n 2, 1) := by decide +kernel
theorem dX3_readMoving_15 : decode cX3_readMoving 15 = .ok (.aload_n 1, 1) := by decide +kernel
theorem dX3_readMoving_16 : decode cX3_readMoving 16 = .ok (.aload_n 0, 1) := by decide +kernel
theorem dX3_readMoving_17 : decode cX3_readMoving 17 = .ok (.iload_n 2, 1) := by decide +kernel
theorem dX3_readMoving_18 : decode cX3_readMoving 18 = .ok (.invokevirtual 79, 3) := by decide +kernel
theorem dX3_readMoving_21 : decode cX3_readMoving 21 = .ok (.ifCond .eq 7, 3) := by decide +kernel
theorem dX3_readMoving_24 : decode cX3_readMoving 24 = .ok (.iconst 1, 1) := by decide +kernel
theorem dX3_readMoving_25 : decode cX3_readMoving 25 = .ok (.goto 4, 3) := by decide +kernel
theorem dX3_readMoving_28 : decode cX3_readMoving 28 = .ok (.iconst 0, 1) := by decide +kernel
theorem dX3_readMoving_29 : decode cX3_readMoving 29 = .ok (.putfield 39, 3) := by decide +kernel
theorem dX3_readMoving_32 : decode cX3_readMoving 32 = .ok (.aload_n 1, 1) := by decide +kernel
theorem dX3_readMoving_33 : decode cX3_readMoving 33 = .ok (.aload_n 0, 1) := by decide +kernel
theorem dX3_readMoving_34 : decode cX3_readMoving 34 = .ok (.iload_n 2, 1) := by decide +kernel
theorem dX3_readMoving_35 : decode cX3_readMoving 35 = .ok (.iconst 1, 1) := by decide +kernel
theorem dX3_readMoving_36 : decode cX3_readMoving 36 = .ok (.iadd, 1) := by decide +kernel
theorem dX3_readMoving_37 : decode cX3_readMoving 37 = .ok (.invokevirtual 89, 3) := by decide +kernel
theorem dX3_readMoving_40 : decode cX3_readMoving 40 = .ok (.putfield 21, 3) := by decide +kernel
theorem dX3_readMoving_43 : decode cX3_readMoving 43 = .ok (.aload_n 1, 1) := by decide +kernel
theorem dX3_readMoving_44 : decode cX3_readMoving 44 = .ok (.aload_n 0, 1) := by decide +kernel
theorem dX3_readMoving_45 : decode cX3_readMoving 45 = .ok (.iload_n 2, 1) := by decide +kernel
theorem dX3_readMoving_46 : decode cX3_readMoving 46 = .ok (.iconst 3, 1) := by decide +kernel
theorem dX3_readMoving_47 : decode cX3_readMoving 47 = .ok (.iadd, 1) := by decide +kernel
theorem dX3_readMoving_48 : decode cX3_readMoving 48 = .ok (.invokevirtual 89, 3) := by decide +kernel
theorem dX3_readMoving_51 : decode cX3_readMoving 51 = .ok (.ldc 92, 2) := by decide +kernel
theorem dX3_readMoving_53 : decode cX3_readMoving 53 = .ok (.imul, 1) := by decide +kernel
theorem dX3_readMoving_54 : decode cX3_readMoving 54 = .ok (.aload_n 0, 1) := by decide +kernel
theorem dX3_readMoving_55 : decode cX3_readMoving 55 = .ok (.iload_n 2, 1) := by decide +kernel
theorem dX3_readMoving_56 : decode cX3_readMoving 56 = .ok (.iconst 5, 1) := by decide +kernel
theorem dX3_readMoving_57 : decode cX3_readMoving 57 = .ok (.iadd, 1) := by decide +kernel
theorem dX3_readMoving_58 : decode cX3_readMoving 58 = .ok (.invokevirtual 89, 3) := by decide +kernel
theorem dX3_readMoving_61 : decode cX3_readMoving 61 = .ok (.iadd, 1) := by decide +kernel
theorem dX3_readMoving_62 : decode cX3_readMoving 62 = .ok (.putfield 93, 3) := by decide +kernel
theorem dX3_readMoving_65 : decode cX3_readMoving 65 = .ok (.aload_n 1, 1) := by decide +kernel
theorem dX3_readMoving_66 : decode cX3_readMoving 66 = .ok (.aload_n 0, 1) := by decide +kernel
theorem dX3_readMoving_67 : decode cX3_readMoving 67 = .ok (.iload_n 2, 1) := by decide +kernel
theorem dX3_readMoving_68 : decode cX3_readMoving 68 = .ok (.bipush 7, 2) := by decide +kernel
theorem dX3_readMoving_70 : decode cX3_readMoving 70 = .ok (.iadd, 1) := by decide +kernel
theorem dX3_readMoving_71 : decode cX3_readMoving 71 = .ok (.invokevirtual 89, 3) := by decide +kernel
theorem dX3_readMoving_74 : decode cX3_readMoving 74 = .ok (.putfield 96, 3) := by decide +kernel
theorem dX3_readMoving_77 : decode cX3_readMoving 77 = .ok (.return_, 1) := by decide +kernel
theorem dX4_init_0 : decode cX4_init 0 = .ok (.aload_n 0, 1) := by decide +kernel
theorem dX4_init_1 : decode cX4_init 1 = .ok (.invokespecial 3, 3) := by decide +kernel
theorem dX4_init_4 : decode cX4_init 4 = .ok (.aload_n 0, 1) := by decide +kernel
theorem dX4_init_5 : decode cX4_init 5 = .ok (.new 9, 3) := by decide +kernel
theorem dX4_init_8 : decode cX4_init 8 = .ok (.dup, 1) := by decide +kernel
theorem dX4_init_9 : decode cX4_init 9 = .ok (.invokespecial 11, 3) := by decide +kernel
theorem dX4_init_12 : decode cX4_init 12 = .ok (.putfield 12, 3) := by decide +kernel
theorem dX4_init_15 : decode cX4_init 15 = .ok (.return_, 1) := by decide +kernel
theorem dX4_hasUseFor_0 : decode cX4_hasUseFor 0 = .ok (.iload_n 1, 1) := by decide +kernel
theorem dX4_hasUseFor_1 : decode cX4_hasUseFor 1 = .ok (.iconst 4, 1) := by decide +kernel
theorem dX4_hasUseFor_2 : decode cX4_hasUseFor 2 = .ok (.if_icmp .ne 5, 3) := by decide +kernel
theorem dX4_hasUseFor_5 : decode cX4_hasUseFor 5 = .ok (.iconst 1, 1) := by decide +kernel
theorem dX4_hasUseFor_6 : decode cX4_hasUseFor 6 = .ok (.ireturn, 1) := by decide +kernel
theorem dX4_hasUseFor_7 : decode cX4_hasUseFor 7 = .ok (.iload_n 1, 1) := by decide +kernel
theorem dX4_hasUseFor_8 : decode cX4_hasUseFor 8 = .ok (.iconst 3, 1) := by decide +kernel
theorem dX4_hasUseFor_9 : decode cX4_hasUseFor 9 = .ok (.if_icmp .ne 18, 3) := by decide +kernel
theorem dX4_hasUseFor_12 : decode cX4_hasUseFor 12 = .ok (.aload_n 0, 1) := by decide +kernel
theorem dX4_hasUseFor_13 : decode cX4_hasUseFor 13 = .ok (.getfield 18, 3) := by decide +kernel
theorem dX4_hasUseFor_16 : decode cX4_hasUseFor 16 = .ok (.ifCond .eq 7, 3) := by decide +kernel
theorem dX4_hasUseFor_19 : decode cX4_hasUseFor 19 = .ok (.iconst 1, 1) := by decide +kernel
theorem dX4_hasUseFor_20 : decode cX4_hasUseFor 20 = .ok (.goto 20, 3) := by decide +kernel
theorem dX4_hasUseFor_23 : decode cX4_hasUseFor 23 = .ok (.iconst 0, 1) := by decide +kernel
theorem dX4_hasUseFor_24 : decode cX4_hasUseFor 24 = .ok (.goto 16, 3) := by decide +kernel
theorem dX4_hasUseFor_27 : decode cX4_hasUseFor 27 = .ok (.aload_n 0, 1) := by decide +kernel
theorem dX4_hasUseFor_28 : decode cX4_hasUseFor 28 = .ok (.getfield 18, 3) := by decide +kernel
theorem dX4_hasUseFor_31 : decode cX4_hasUseFor 31 = .ok (.iconst 2, 1) := by decide +kernel
theorem dX4_hasUseFor_32 : decode cX4_hasUseFor 32 = .ok (.if_icmp .ne 7, 3) := by decide +kernel
theorem dX4_hasUseFor_35 : decode cX4_hasUseFor 35 = .ok (.iconst 1, 1) := by decide +kernel
theorem dX4_hasUseFor_36 : decode cX4_hasUseFor 36 = .ok (.goto 4, 3) := by decide +kernel
theorem dX4_hasUseFor_39 : decode cX4_hasUseFor 39 = .ok (.iconst 0, 1) := by decide +kernel
theorem dX4_hasUseFor_40 : decode cX4_hasUseFor 40 = .ok (.ireturn, 1) := by decide +kernel
theorem dX4_take_0 : decode cX4_take 0 = .ok (.aload_n 1, 1) := by decide +kernel
theorem dX4_take_1 : decode cX4_take 1 = .ok (.getfield 22, 3) := by decide +kernel
theorem dX4_take_4 : decode cX4_take 4 = .ok (.iconst 3, 1) := by decide +kernel
theorem dX4_take_5 : decode cX4_take 5 = .ok (.if_icmp .ge 12, 3) := by decide +kernel
theorem dX4_take_8 : decode cX4_take 8 = .ok (.aload_n 0, 1) := by decide +kernel
theorem dX4_take_9 : decode cX4_take 9 = .ok (.aload_n 1, 1) := by decide +kernel
theorem dX4_take_10 : decode cX4_take 10 = .ok (.aload_n 2, 1) := by decide +kernel
theorem dX4_take_11 : decode cX4_take 11 = .ok (.invokevirtual 27, 3) := by decide +kernel
theorem dX4_take_14 : decode cX4_take 14 = .ok (.goto 9, 3) := by decide +kernel
theorem dX4_take_17 : decode cX4_take 17 = .ok (.aload_n 0, 1) := by decide +kernel
theorem dX4_take_18 : decode cX4_take 18 = .ok (.aload_n 1, 1) := by decide +kernel
theorem dX4_take_19 : decode cX4_take 19 = .ok (.aload_n 2, 1) := by decide +kernel
theorem dX4_take_20 : decode cX4_take 20 = .ok (.invokevirtual 31, 3) := by decide +kernel
theorem dX4_take_23 : decode cX4_take 23 = .ok (.istore_n 3, 1) := by decide +kernel
theorem dX4_take_24 : decode cX4_take 24 = .ok (.iload_n 3, 1) := by decide +kernel
theorem dX4_take_25 : decode cX4_take 25 = .ok (.ifCond .ne 10, 3) := by decide +kernel
theorem dX4_take_28 : decode cX4_take 28 = .ok (.aload_n 0, 1) := by decide +kernel
theorem dX4_take_29 : decode cX4_take 29 = .ok (.invokevirtual 34, 3) := by decide +kernel
theorem dX4_take_32 : decode cX4_take 32 = .ok (.goto 11, 3) := by decide +kernel
theorem dX4_take_35 : decode cX4_take 35 = .ok (.aload_n 0, 1) := by decide +kernel
theorem dX4_take_36 : decode cX4_take 36 = .ok (.aload_n 2, 1) := by decide +kernel
theorem dX4_take_37 : decode cX4_take 37 = .ok (.getfield 37, 3) := by decide +kernel
theorem dX4_take_40 : decode cX4_take 40 = .ok (.invokevirtual 42, 3) := by decide +kernel
theorem dX4_take_43 : decode cX4_take 43 = .ok (.iload_n 3, 1) := by decide +kernel
theorem dX4_take_44 : decode cX4_take 44 = .ok (.ireturn, 1) := by decide +kernel
theorem dX4_makeMoving_0 : decode cX4_makeMoving 0 = .ok (.aload_n 0, 1) := by decide +kernel
theorem dX4_makeMoving_1 : decode cX4_makeMoving 1 = .ok (.getfield 12, 3) := by decide +kernel
theorem dX4_makeMoving_4 : decode cX4_makeMoving 4 = .ok (.getfield 46, 3) := by decide +kernel
theorem dX4_makeMoving_7 : decode cX4_makeMoving 7 = .ok (.istore_n 3, 1) := by decide +kernel
theorem dX4_makeMoving_8 : decode cX4_makeMoving 8 = .ok (.aload_n 1, 1) := by decide +kernel
theorem dX4_makeMoving_9 : decode cX4_makeMoving 9 = .ok (.getfield 22, 3) := by decide +kernel
theorem dX4_makeMoving_12 : decode cX4_makeMoving 12 = .ok (.iconst 4, 1) := by decide +kernel
theorem dX4_makeMoving_13 : decode cX4_makeMoving 13 = .ok (.if_icmp .ne 16, 3) := by decide +kernel
theorem dX4_makeMoving_16 : decode cX4_makeMoving 16 = .ok (.aload_n 1, 1) := by decide +kernel
theorem dX4_makeMoving_17 : decode cX4_makeMoving 17 = .ok (.invokevirtual 49, 3) := by decide +kernel
theorem dX4_makeMoving_20 : decode cX4_makeMoving 20 = .ok (.istore_n 3, 1) := by decide +kernel
theorem dX4_makeMoving_21 : decode cX4_makeMoving 21 = .ok (.aload_n 1, 1) := by decide +kernel
theorem dX4_makeMoving_22 : decode cX4_makeMoving 22 = .ok (.aload_n 2, 1) := by decide +kernel
theorem dX4_makeMoving_23 : decode cX4_makeMoving 23 = .ok (.invokevirtual 53, 3) := by decide +kernel
theorem dX4_makeMoving_26 : decode cX4_makeMoving 26 = .ok (.goto 25, 3) := by decide +kernel
theorem dX4_makeMoving_29 : decode cX4_makeMoving 29 = .ok (.aload_n 2, 1) := by decide +kernel
theorem dX4_makeMoving_30 : decode cX4_makeMoving 30 = .ok (.aload_n 0, 1) := by decide +kernel
theorem dX4_makeMoving_31 : decode cX4_makeMoving 31 = .ok (.getfield 12, 3) := by decide +kernel
theorem dX4_makeMoving_34 : decode cX4_makeMoving 34 = .ok (.getfield 57, 3) := by decide +kernel
theorem dX4_makeMoving_37 : decode cX4_makeMoving 37 = .ok (.putfield 60, 3) := by decide +kernel
theorem dX4_makeMoving_40 : decode cX4_makeMoving 40 = .ok (.aload_n 2, 1) := by decide +kernel
theorem dX4_makeMoving_41 : decode cX4_makeMoving 41 = .ok (.aload_n 0, 1) := by decide +kernel
theorem dX4_makeMoving_42 : decode cX4_makeMoving 42 = .ok (.getfield 12, 3) := by decide +kernel
theorem dX4_makeMoving_45 : decode cX4_makeMoving 45 = .ok (.getfield 61, 3) := by decide +kernel
theorem dX4_makeMoving_48 : decode cX4_makeMoving 48 = .ok (.putfield 64, 3) := by decide +kernel
theorem dX4_makeMoving_51 : decode cX4_makeMoving 51 = .ok (.aload_n 1, 1) := by decide +kernel
theorem dX4_makeMoving_52 : decode cX4_makeMoving 52 = .ok (.aload_n 2, 1) := by decide +kernel
theorem dX4_makeMoving_53 : decode cX4_makeMoving 53 = .ok (.invokevirtual 65, 3) := by decide +kernel
theorem dX4_makeMoving_56 : decode cX4_makeMoving 56 = .ok (.aload_n 2, 1) := by decide +kernel
theorem dX4_makeMoving_57 : decode cX4_makeMoving 57 = .ok (.aload_n 1, 1) := by decide +kernel
theorem dX4_makeMoving_58 : decode cX4_makeMoving 58 = .ok (.getfield 22, 3) := by decide +kernel
theorem dX4_makeMoving_61 : decode cX4_makeMoving 61 = .ok (.iload_n 3, 1) := by decide +kernel
theorem dX4_makeMoving_62 : decode cX4_makeMoving 62 = .ok (.invokevirtual 68, 3) := by decide +kernel
theorem dX4_makeMoving_65 : decode cX4_makeMoving 65 = .ok (.aload_n 1, 1) := by decide +kernel
theorem dX4_makeMoving_66 : decode cX4_makeMoving 66 = .ok (.invokevirtual 72, 3) := by decide +kernel
theorem dX4_makeMoving_69 : decode cX4_makeMoving 69 = .ok (.if_icmp .eq 5, 3) := by decide +kernel
theorem dX4_makeMoving_72 : decode cX4_makeMoving 72 = .ok (.iconst 0, 1) := by decide +kernel
theorem dX4_makeMoving_73 : decode cX4_makeMoving 73 = .ok (.ireturn, 1) := by decide +kernel
theorem dX4_makeMoving_74 : decode cX4_makeMoving 74 = .ok (.aload_n 0, 1) := by decide +kernel
theorem dX4_makeMoving_75 : decode cX4_makeMoving 75 = .ok (.getfield 12, 3) := by decide +kernel
theorem dX4_makeMoving_78 : decode cX4_makeMoving 78 = .ok (.aload_n 2, 1) := by decide +kernel
theorem dX4_makeMoving_79 : decode cX4_makeMoving 79 = .ok (.iload_n 3, 1) := by decide +kernel
theorem dX4_makeMoving_80 : decode cX4_makeMoving 80 = .ok (.invokevirtual 75, 3) := by decide +kernel
theorem dX4_makeMoving_83 : decode cX4_makeMoving 83 = .ok (.iconst 1, 1) := by decide +kernel
theorem dX4_makeMoving_84 : decode cX4_makeMoving 84 = .ok (.ireturn, 1) := by decide +kernel
theorem dX4_makeSmall_0 : decode cX4_makeSmall 0 = .ok (.aload_n 0, 1) := by decide +kernel
theorem dX4_makeSmall_1 : decode cX4_makeSmall 1 = .ok (.getfield 79, 3) := by decide +kernel
theorem dX4_makeSmall_4 : decode cX4_makeSmall 4 = .ok (.aload_n 1, 1) := by decide +kernel
theorem dX4_makeSmall_5 : decode cX4_makeSmall 5 = .ok (.invokestatic 82, 3) := by decide +kernel
theorem dX4_makeSmall_8 : decode cX4_makeSmall 8 = .ok (.istore_n 3, 1) := by decide +kernel
theorem dX4_makeSmall_9 : decode cX4_makeSmall 9 = .ok (.aload_n 0, 1) := by decide +kernel
theorem dX4_makeSmall_10 : decode cX4_makeSmall 10 = .ok (.aload_n 1, 1) := by decide +kernel
theorem dX4_makeSmall_11 : decode cX4_makeSmall 11 = .ok (.aload_n 2, 1) := by decide +kernel
theorem dX4_makeSmall_12 : decode cX4_makeSmall 12 = .ok (.iload_n 3, 1) := by decide +kernel
theorem dX4_makeSmall_13 : decode cX4_makeSmall 13 = .ok (.invokevirtual 86, 3) := by decide +kernel
theorem dX4_makeSmall_16 : decode cX4_makeSmall 16 = .ok (.ifCond .eq 5, 3) := by decide +kernel
theorem dX4_makeSmall_19 : decode cX4_makeSmall 19 = .ok (.iconst 1, 1) := by decide +kernel
theorem dX4_makeSmall_20 : decode cX4_makeSmall 20 = .ok (.ireturn, 1) := by decide +kernel
theorem dX4_makeSmall_21 : decode cX4_makeSmall 21 = .ok (.iload_n 3, 1) := by decide +kernel
theorem dX4_makeSmall_22 : decode cX4_makeSmall 22 = .ok (.getstatic 90, 3) := by decide +kernel
theorem dX4_makeSmall_25 : decode cX4_makeSmall 25 = .ok (.aload_n 1, 1) := by decide +kernel
theorem dX4_makeSmall_26 : decode cX4_makeSmall 26 = .ok (.getfield 22, 3) := by decide +kernel
theorem dX4_makeSmall_29 : decode cX4_makeSmall 29 = .ok (.iaload, 1) := by decide +kernel
theorem dX4_makeSmall_30 : decode cX4_makeSmall 30 = .ok (.iadd, 1) := by decide +kernel
theorem dX4_makeSmall_31 : decode cX4_makeSmall 31 = .ok (.iconst 1, 1) := by decide +kernel
theorem dX4_makeSmall_32 : decode cX4_makeSmall 32 = .ok (.iadd, 1) := by decide +kernel
theorem dX4_makeSmall_33 : decode cX4_makeSmall 33 = .ok (.ldc 94, 2) := by decide +kernel
theorem dX4_makeSmall_35 : decode cX4_makeSmall 35 = .ok (.iand, 1) := by decide +kernel
theorem dX4_makeSmall_36 : decode cX4_makeSmall 36 = .ok (.istore 4, 2) := by decide +kernel
theorem dX4_makeSmall_38 : decode cX4_makeSmall 38 = .ok (.aload_n 0, 1) := by decide +kernel
theorem dX4_makeSmall_39 : decode cX4_makeSmall 39 = .ok (.aload_n 1, 1) := by decide +kernel
theorem dX4_makeSmall_40 : decode cX4_makeSmall 40 = .ok (.aload_n 2, 1) := by decide +kernel
theorem dX4_makeSmall_41 : decode cX4_makeSmall 41 = .ok (.iload 4, 2) := by decide +kernel
theorem dX4_makeSmall_43 : decode cX4_makeSmall 43 = .ok (.invokevirtual 86, 3) := by decide +kernel
theorem dX4_makeSmall_46 : decode cX4_makeSmall 46 = .ok (.ifCond .ne 20, 3) := by decide +kernel
theorem dX4_makeSmall_49 : decode cX4_makeSmall 49 = .ok (.aload_n 0, 1) := by decide +kernel
theorem dX4_makeSmall_50 : decode cX4_makeSmall 50 = .ok (.aload_n 1, 1) := by decide +kernel
theorem dX4_makeSmall_51 : decode cX4_makeSmall 51 = .ok (.aload_n 2, 1) := by decide +kernel
theorem dX4_makeSmall_52 : decode cX4_makeSmall 52 = .ok (.aload_n 0, 1) := by decide +kernel
theorem dX4_makeSmall_53 : decode cX4_makeSmall 53 = .ok (.getfield 95, 3) := by decide +kernel
theorem dX4_makeSmall_56 : decode cX4_makeSmall 56 = .ok (.aload_n 1, 1) := by decide +kernel
theorem dX4_makeSmall_57 : decode cX4_makeSmall 57 = .ok (.invokestatic 82, 3) := by decide +kernel
theorem dX4_makeSmall_60 : decode cX4_makeSmall 60 = .ok (.invokevirtual 86, 3) := by decide +kernel
theorem dX4_makeSmall_63 : decode cX4_makeSmall 63 = .ok (.ifCond .eq 7, 3) := by decide +kernel
theorem dX4_makeSmall_66 : decode cX4_makeSmall 66 = .ok (.iconst 1, 1) := by decide +kernel
theorem dX4_makeSmall_67 : decode cX4_makeSmall 67 = .ok (.goto 4, 3) := by decide +kernel
theorem dX4_makeSmall_70 : decode cX4_makeSmall 70 = .ok (.iconst 0, 1) := by decide +kernel
theorem dX4_makeSmall_71 : decode cX4_makeSmall 71 = .ok (.istore 5, 2) := by decide +kernel
theorem dX4_makeSmall_73 : decode cX4_makeSmall 73 = .ok (.iload 5, 2) := by decide +kernel
theorem dX4_makeSmall_75 : decode cX4_makeSmall 75 = .ok (.ifCond .eq 7, 3) := by decide +kernel
theorem dX4_makeSmall_78 : decode cX4_makeSmall 78 = .ok (.iconst 2, 1) := by decide +kernel
theorem dX4_makeSmall_79 : decode cX4_makeSmall 79 = .ok (.goto 4, 3) := by decide +kernel
theorem dX4_makeSmall_82 : decode cX4_makeSmall 82 = .ok (.iconst 0, 1) := by decide +kernel
theorem dX4_makeSmall_83 : decode cX4_makeSmall 83 = .ok (.ireturn, 1) := by decide +kernel
theorem dX4_numberNear_0 : decode cX4_numberNear 0 = .ok (.iload_n 0, 1) := by decide +kernel
theorem dX4_numberNear_1 : decode cX4_numberNear 1 = .ok (.getstatic 98, 3) := by decide +kernel
theorem dX4_numberNear_4 : decode cX4_numberNear 4 = .ok (.aload_n 1, 1) := by decide +kernel
theorem dX4_numberNear_5 : decode cX4_numberNear 5 = .ok (.getfield 22, 3) := by decide +kernel
theorem dX4_numberNear_8 : decode cX4_numberNear 8 = .ok (.iaload, 1) := by decide +kernel
theorem dX4_numberNear_9 : decode cX4_numberNear 9 = .ok (.isub, 1) := by decide +kernel
theorem dX4_numberNear_10 : decode cX4_numberNear 10 = .ok (.istore_n 2, 1) := by decide +kernel
theorem dX4_numberNear_11 : decode cX4_numberNear 11 = .ok (.aload_n 1, 1) := by decide +kernel
theorem dX4_numberNear_12 : decode cX4_numberNear 12 = .ok (.invokevirtual 101, 3) := by decide +kernel
theorem dX4_numberNear_15 : decode cX4_numberNear 15 = .ok (.iload_n 2, 1) := by decide +kernel
theorem dX4_numberNear_16 : decode cX4_numberNear 16 = .ok (.isub, 1) := by decide +kernel
theorem dX4_numberNear_17 : decode cX4_numberNear 17 = .ok (.getstatic 90, 3) := by decide +kernel
theorem dX4_numberNear_20 : decode cX4_numberNear 20 = .ok (.aload_n 1, 1) := by decide +kernel
theorem dX4_numberNear_21 : decode cX4_numberNear 21 = .ok (.getfield 22, 3) := by decide +kernel
theorem dX4_numberNear_24 : decode cX4_numberNear 24 = .ok (.iaload, 1) := by decide +kernel
theorem dX4_numberNear_25 : decode cX4_numberNear 25 = .ok (.iand, 1) := by decide +kernel
theorem dX4_numberNear_26 : decode cX4_numberNear 26 = .ok (.istore_n 3, 1) := by decide +kernel
theorem dX4_numberNear_27 : decode cX4_numberNear 27 = .ok (.iload_n 2, 1) := by decide +kernel
theorem dX4_numberNear_28 : decode cX4_numberNear 28 = .ok (.iload_n 3, 1) := by decide +kernel
theorem dX4_numberNear_29 : decode cX4_numberNear 29 = .ok (.iadd, 1) := by decide +kernel
theorem dX4_numberNear_30 : decode cX4_numberNear 30 = .ok (.ldc 94, 2) := by decide +kernel
theorem dX4_numberNear_32 : decode cX4_numberNear 32 = .ok (.iand, 1) := by decide +kernel
theorem dX4_numberNear_33 : decode cX4_numberNear 33 = .ok (.ireturn, 1) := by decide +kernel
theorem dX4_fits_0 : decode cX4_fits 0 = .ok (.aload_n 0, 1) := by decide +kernel
theorem dX4_fits_1 : decode cX4_fits 1 = .ok (.getfield 12, 3) := by decide +kernel
theorem dX4_fits_4 : decode cX4_fits 4 = .ok (.aload_n 2, 1) := by decide +kernel
theorem dX4_fits_5 : decode cX4_fits 5 = .ok (.iload_n 3, 1) := by decide +kernel
theorem dX4_fits_6 : decode cX4_fits 6 = .ok (.invokevirtual 104, 3) := by decide +kernel
theorem dX4_fits_9 : decode cX4_fits 9 = .ok (.aload_n 2, 1) := by decide +kernel
theorem dX4_fits_10 : decode cX4_fits 10 = .ok (.aload_n 1, 1) := by decide +kernel
theorem dX4_fits_11 : decode cX4_fits 11 = .ok (.invokevirtual 107, 3) := by decide +kernel
theorem dX4_fits_14 : decode cX4_fits 14 = .ok (.putfield 111, 3) := by decide +kernel
theorem dX4_fits_17 : decode cX4_fits 17 = .ok (.aload_n 2, 1) := by decide +kernel
theorem dX4_fits_18 : decode cX4_fits 18 = .ok (.aload_n 1, 1) := by decide +kernel
theorem dX4_fits_19 : decode cX4_fits 19 = .ok (.getfield 22, 3) := by decide +kernel
theorem dX4_fits_22 : decode cX4_fits 22 = .ok (.aload_n 0, 1) := by decide +kernel
theorem dX4_fits_23 : decode cX4_fits 23 = .ok (.getfield 12, 3) := by decide +kernel
theorem dX4_fits_26 : decode cX4_fits 26 = .ok (.getfield 46, 3) := by decide +kernel
theorem dX4_fits_29 : decode cX4_fits 29 = .ok (.invokevirtual 68, 3) := by decide +kernel
theorem dX4_fits_32 : decode cX4_fits 32 = .ok (.aload_n 1, 1) := by decide +kernel
theorem dX4_fits_33 : decode cX4_fits 33 = .ok (.invokevirtual 72, 3) := by decide +kernel
theorem dX4_fits_36 : decode cX4_fits 36 = .ok (.if_icmp .ne 7, 3) := by decide +kernel
theorem dX4_fits_39 : decode cX4_fits 39 = .ok (.iconst 1, 1) := by decide +kernel
theorem dX4_fits_40 : decode cX4_fits 40 = .ok (.goto 4, 3) := by decide +kernel
theorem dX4_fits_43 : decode cX4_fits 43 = .ok (.iconst 0, 1) := by decide +kernel
theorem dX4_fits_44 : decode cX4_fits 44 = .ok (.ireturn, 1) := by decide +kernel
theorem dX4_noteMade_0 : decode cX4_noteMade 0 = .ok (.aload_n 0, 1) := by decide +kernel
theorem dX4_noteMade_1 : decode cX4_noteMade 1 = .ok (.aload_n 0, 1) := by decide +kernel
theorem dX4_noteMade_2 : decode cX4_noteMade 2 = .ok (.getfield 18, 3) := by decide +kernel
theorem dX4_noteMade_5 : decode cX4_noteMade 5 = .ok (.ifCond .ne 7, 3) := by decide +kernel
theorem dX4_noteMade_8 : decode cX4_noteMade 8 = .ok (.iload_n 1, 1) := by decide +kernel
theorem dX4_noteMade_9 : decode cX4_noteMade 9 = .ok (.goto 7, 3) := by decide +kernel
theorem dX4_noteMade_12 : decode cX4_noteMade 12 = .ok (.aload_n 0, 1) := by decide +kernel
theorem dX4_noteMade_13 : decode cX4_noteMade 13 = .ok (.getfield 79, 3) := by decide +kernel
theorem dX4_noteMade_16 : decode cX4_noteMade 16 = .ok (.putfield 95, 3) := by decide +kernel
theorem dX4_noteMade_19 : decode cX4_noteMade 19 = .ok (.aload_n 0, 1) := by decide +kernel
theorem dX4_noteMade_20 : decode cX4_noteMade 20 = .ok (.iload_n 1, 1) := by decide +kernel
theorem dX4_noteMade_21 : decode cX4_noteMade 21 = .ok (.putfield 79, 3) := by decide +kernel
theorem dX4_noteMade_24 : decode cX4_noteMade 24 = .ok (.aload_n 0, 1) := by decide +kernel
theorem dX4_noteMade_25 : decode cX4_noteMade 25 = .ok (.iconst 2, 1) := by decide +kernel
theorem dX4_noteMade_26 : decode cX4_noteMade 26 = .ok (.putfield 18, 3) := by decide +kernel
theorem dX4_noteMade_29 : decode cX4_noteMade 29 = .ok (.aload_n 0, 1) := by decide +kernel
theorem dX4_noteMade_30 : decode cX4_noteMade 30 = .ok (.iconst 0, 1) := by decide +kernel
theorem dX4_noteMade_31 : decode cX4_noteMade 31 = .ok (.putfield 115, 3) := by decide +kernel
theorem dX4_noteMade_34 : decode cX4_noteMade 34 = .ok (.return_, 1) := by decide +kernel
