theorem dX7_noFlow_0 : decode cX7_noFlow 0 = .ok (.iload_n 1, 1) := by decide +kernel
theorem dX7_noFlow_1 : decode cX7_noFlow 1 = .ok (.ifCond .lt 8, 3) := by decide +kernel
theorem dX7_noFlow_4 : decode cX7_noFlow 4 = .ok (.iload_n 1, 1) := by decide +kernel
theorem dX7_noFlow_5 : decode cX7_noFlow 5 = .ok (.iconst 3, 1) := by decide +kernel
theorem dX7_noFlow_6 : decode cX7_noFlow 6 = .ok (.if_icmp .le 7, 3) := by decide +kernel
theorem dX7_noFlow_9 : decode cX7_noFlow 9 = .ok (.iconst 1, 1) := by decide +kernel
theorem dX7_noFlow_10 : decode cX7_noFlow 10 = .ok (.goto 4, 3) := by decide +kernel
theorem dX7_noFlow_13 : decode cX7_noFlow 13 = .ok (.iconst 0, 1) := by decide +kernel
theorem dX7_noFlow_14 : decode cX7_noFlow 14 = .ok (.ireturn, 1) := by decide +kernel
theorem dX7_outside_0 : decode cX7_outside 0 = .ok (.iload_n 1, 1) := by decide +kernel
theorem dX7_outside_1 : decode cX7_outside 1 = .ok (.ifCond .lt 9, 3) := by decide +kernel
theorem dX7_outside_4 : decode cX7_outside 4 = .ok (.iload_n 1, 1) := by decide +kernel
theorem dX7_outside_5 : decode cX7_outside 5 = .ok (.ldc 96, 2) := by decide +kernel
theorem dX7_outside_7 : decode cX7_outside 7 = .ok (.if_icmp .le 7, 3) := by decide +kernel
theorem dX7_outside_10 : decode cX7_outside 10 = .ok (.iconst 1, 1) := by decide +kernel
theorem dX7_outside_11 : decode cX7_outside 11 = .ok (.goto 4, 3) := by decide +kernel
theorem dX7_outside_14 : decode cX7_outside 14 = .ok (.iconst 0, 1) := by decide +kernel
theorem dX7_outside_15 : decode cX7_outside 15 = .ok (.ireturn, 1) := by decide +kernel
theorem dX7_stride_0 : decode cX7_stride 0 = .ok (.aload_n 0, 1) := by decide +kernel
theorem dX7_stride_1 : decode cX7_stride 1 = .ok (.aload_n 0, 1) := by decide +kernel
theorem dX7_stride_2 : decode cX7_stride 2 = .ok (.iload_n 1, 1) := by decide +kernel
theorem dX7_stride_3 : decode cX7_stride 3 = .ok (.invokevirtual 97, 3) := by decide +kernel
theorem dX7_stride_6 : decode cX7_stride 6 = .ok (.ifCond .eq 7, 3) := by decide +kernel
theorem dX7_stride_9 : decode cX7_stride 9 = .ok (.iconst 1, 1) := by decide +kernel
theorem dX7_stride_10 : decode cX7_stride 10 = .ok (.goto 16, 3) := by decide +kernel
theorem dX7_stride_13 : decode cX7_stride 13 = .ok (.aload_n 0, 1) := by decide +kernel
theorem dX7_stride_14 : decode cX7_stride 14 = .ok (.iload_n 2, 1) := by decide +kernel
theorem dX7_stride_15 : decode cX7_stride 15 = .ok (.invokevirtual 101, 3) := by decide +kernel
theorem dX7_stride_18 : decode cX7_stride 18 = .ok (.ifCond .eq 7, 3) := by decide +kernel
theorem dX7_stride_21 : decode cX7_stride 21 = .ok (.iconst 2, 1) := by decide +kernel
theorem dX7_stride_22 : decode cX7_stride 22 = .ok (.goto 4, 3) := by decide +kernel
theorem dX7_stride_25 : decode cX7_stride 25 = .ok (.iconst 0, 1) := by decide +kernel
theorem dX7_stride_26 : decode cX7_stride 26 = .ok (.putfield 92, 3) := by decide +kernel
theorem dX7_stride_29 : decode cX7_stride 29 = .ok (.aload_n 0, 1) := by decide +kernel
theorem dX7_stride_30 : decode cX7_stride 30 = .ok (.getfield 92, 3) := by decide +kernel
theorem dX7_stride_33 : decode cX7_stride 33 = .ok (.ifCond .ne 10, 3) := by decide +kernel
theorem dX7_stride_36 : decode cX7_stride 36 = .ok (.aload_n 0, 1) := by decide +kernel
theorem dX7_stride_37 : decode cX7_stride 37 = .ok (.getfield 7, 3) := by decide +kernel
theorem dX7_stride_40 : decode cX7_stride 40 = .ok (.iload_n 1, 1) := by decide +kernel
theorem dX7_stride_41 : decode cX7_stride 41 = .ok (.iload_n 2, 1) := by decide +kernel
theorem dX7_stride_42 : decode cX7_stride 42 = .ok (.iastore, 1) := by decide +kernel
theorem dX7_stride_43 : decode cX7_stride 43 = .ok (.return_, 1) := by decide +kernel
theorem dX7_head_0 : decode cX7_head 0 = .ok (.aload_n 0, 1) := by decide +kernel
theorem dX7_head_1 : decode cX7_head 1 = .ok (.aload_n 0, 1) := by decide +kernel
theorem dX7_head_2 : decode cX7_head 2 = .ok (.iload_n 1, 1) := by decide +kernel
theorem dX7_head_3 : decode cX7_head 3 = .ok (.invokevirtual 101, 3) := by decide +kernel
theorem dX7_head_6 : decode cX7_head 6 = .ok (.ifCond .ne 13, 3) := by decide +kernel
theorem dX7_head_9 : decode cX7_head 9 = .ok (.iload_n 2, 1) := by decide +kernel
theorem dX7_head_10 : decode cX7_head 10 = .ok (.ifCond .lt 9, 3) := by decide +kernel
theorem dX7_head_13 : decode cX7_head 13 = .ok (.iload_n 2, 1) := by decide +kernel
theorem dX7_head_14 : decode cX7_head 14 = .ok (.bipush 127, 2) := by decide +kernel
theorem dX7_head_16 : decode cX7_head 16 = .ok (.if_icmp .le 7, 3) := by decide +kernel
theorem dX7_head_19 : decode cX7_head 19 = .ok (.iconst 1, 1) := by decide +kernel
theorem dX7_head_20 : decode cX7_head 20 = .ok (.goto 4, 3) := by decide +kernel
theorem dX7_head_23 : decode cX7_head 23 = .ok (.iconst 0, 1) := by decide +kernel
theorem dX7_head_24 : decode cX7_head 24 = .ok (.putfield 92, 3) := by decide +kernel
theorem dX7_head_27 : decode cX7_head 27 = .ok (.aload_n 0, 1) := by decide +kernel
theorem dX7_head_28 : decode cX7_head 28 = .ok (.getfield 92, 3) := by decide +kernel
theorem dX7_head_31 : decode cX7_head 31 = .ok (.ifCond .ne 18, 3) := by decide +kernel
theorem dX7_head_34 : decode cX7_head 34 = .ok (.aload_n 0, 1) := by decide +kernel
theorem dX7_head_35 : decode cX7_head 35 = .ok (.iload_n 1, 1) := by decide +kernel
theorem dX7_head_36 : decode cX7_head 36 = .ok (.putfield 104, 3) := by decide +kernel
theorem dX7_head_39 : decode cX7_head 39 = .ok (.aload_n 0, 1) := by decide +kernel
theorem dX7_head_40 : decode cX7_head 40 = .ok (.iload_n 2, 1) := by decide +kernel
theorem dX7_head_41 : decode cX7_head 41 = .ok (.putfield 107, 3) := by decide +kernel
theorem dX7_head_44 : decode cX7_head 44 = .ok (.aload_n 0, 1) := by decide +kernel
theorem dX7_head_45 : decode cX7_head 45 = .ok (.iload_n 3, 1) := by decide +kernel
theorem dX7_head_46 : decode cX7_head 46 = .ok (.putfield 110, 3) := by decide +kernel
theorem dX7_head_49 : decode cX7_head 49 = .ok (.return_, 1) := by decide +kernel
theorem dX7_enough_0 : decode cX7_enough 0 = .ok (.iconst 1, 1) := by decide +kernel
theorem dX7_enough_1 : decode cX7_enough 1 = .ok (.istore 4, 2) := by decide +kernel
theorem dX7_enough_3 : decode cX7_enough 3 = .ok (.iconst 0, 1) := by decide +kernel
theorem dX7_enough_4 : decode cX7_enough 4 = .ok (.istore 5, 2) := by decide +kernel
theorem dX7_enough_6 : decode cX7_enough 6 = .ok (.iload 5, 2) := by decide +kernel
theorem dX7_enough_8 : decode cX7_enough 8 = .ok (.aload_n 0, 1) := by decide +kernel
theorem dX7_enough_9 : decode cX7_enough 9 = .ok (.getfield 41, 3) := by decide +kernel
theorem dX7_enough_12 : decode cX7_enough 12 = .ok (.iload_n 1, 1) := by decide +kernel
theorem dX7_enough_13 : decode cX7_enough 13 = .ok (.iaload, 1) := by decide +kernel
theorem dX7_enough_14 : decode cX7_enough 14 = .ok (.if_icmp .ge 57, 3) := by decide +kernel
theorem dX7_enough_17 : decode cX7_enough 17 = .ok (.iload_n 3, 1) := by decide +kernel
theorem dX7_enough_18 : decode cX7_enough 18 = .ok (.aload_n 0, 1) := by decide +kernel
theorem dX7_enough_19 : decode cX7_enough 19 = .ok (.getfield 44, 3) := by decide +kernel
theorem dX7_enough_22 : decode cX7_enough 22 = .ok (.iconst 4, 1) := by decide +kernel
theorem dX7_enough_23 : decode cX7_enough 23 = .ok (.iload_n 1, 1) := by decide +kernel
theorem dX7_enough_24 : decode cX7_enough 24 = .ok (.imul, 1) := by decide +kernel
theorem dX7_enough_25 : decode cX7_enough 25 = .ok (.iload 5, 2) := by decide +kernel
theorem dX7_enough_27 : decode cX7_enough 27 = .ok (.iadd, 1) := by decide +kernel
theorem dX7_enough_28 : decode cX7_enough 28 = .ok (.iaload, 1) := by decide +kernel
theorem dX7_enough_29 : decode cX7_enough 29 = .ok (.isub, 1) := by decide +kernel
theorem dX7_enough_30 : decode cX7_enough 30 = .ok (.aload_n 0, 1) := by decide +kernel
theorem dX7_enough_31 : decode cX7_enough 31 = .ok (.iload_n 2, 1) := by decide +kernel
theorem dX7_enough_32 : decode cX7_enough 32 = .ok (.invokevirtual 114, 3) := by decide +kernel
theorem dX7_enough_35 : decode cX7_enough 35 = .ok (.iadd, 1) := by decide +kernel
theorem dX7_enough_36 : decode cX7_enough 36 = .ok (.ldc 96, 2) := by decide +kernel
theorem dX7_enough_38 : decode cX7_enough 38 = .ok (.iand, 1) := by decide +kernel
theorem dX7_enough_39 : decode cX7_enough 39 = .ok (.istore 6, 2) := by decide +kernel
theorem dX7_enough_41 : decode cX7_enough 41 = .ok (.iload 4, 2) := by decide +kernel
theorem dX7_enough_43 : decode cX7_enough 43 = .ok (.ifCond .eq 19, 3) := by decide +kernel
theorem dX7_enough_46 : decode cX7_enough 46 = .ok (.iload 6, 2) := by decide +kernel
theorem dX7_enough_48 : decode cX7_enough 48 = .ok (.iconst 1, 1) := by decide +kernel
theorem dX7_enough_49 : decode cX7_enough 49 = .ok (.aload_n 0, 1) := by decide +kernel
theorem dX7_enough_50 : decode cX7_enough 50 = .ok (.iload_n 2, 1) := by decide +kernel
theorem dX7_enough_51 : decode cX7_enough 51 = .ok (.invokevirtual 118, 3) := by decide +kernel
theorem dX7_enough_54 : decode cX7_enough 54 = .ok (.ishl, 1) := by decide +kernel
theorem dX7_enough_55 : decode cX7_enough 55 = .ok (.if_icmp .ge 7, 3) := by decide +kernel
theorem dX7_enough_58 : decode cX7_enough 58 = .ok (.iconst 1, 1) := by decide +kernel
theorem dX7_enough_59 : decode cX7_enough 59 = .ok (.goto 4, 3) := by decide +kernel
theorem dX7_enough_62 : decode cX7_enough 62 = .ok (.iconst 0, 1) := by decide +kernel
theorem dX7_enough_63 : decode cX7_enough 63 = .ok (.istore 4, 2) := by decide +kernel
theorem dX7_enough_65 : decode cX7_enough 65 = .ok (.iinc 5 1, 3) := by decide +kernel
theorem dX7_enough_68 : decode cX7_enough 68 = .ok (.goto (-62), 3) := by decide +kernel
theorem dX7_enough_71 : decode cX7_enough 71 = .ok (.iload 4, 2) := by decide +kernel
theorem dX7_enough_73 : decode cX7_enough 73 = .ok (.ireturn, 1) := by decide +kernel
theorem dX7_put_0 : decode cX7_put 0 = .ok (.aload_n 0, 1) := by decide +kernel
theorem dX7_put_1 : decode cX7_put 1 = .ok (.getfield 89, 3) := by decide +kernel
theorem dX7_put_4 : decode cX7_put 4 = .ok (.aload_n 0, 1) := by decide +kernel
theorem dX7_put_5 : decode cX7_put 5 = .ok (.getfield 121, 3) := by decide +kernel
theorem dX7_put_8 : decode cX7_put 8 = .ok (.iload_n 1, 1) := by decide +kernel
theorem dX7_put_9 : decode cX7_put 9 = .ok (.iastore, 1) := by decide +kernel
theorem dX7_put_10 : decode cX7_put 10 = .ok (.aload_n 0, 1) := by decide +kernel
theorem dX7_put_11 : decode cX7_put 11 = .ok (.dup, 1) := by decide +kernel
theorem dX7_put_12 : decode cX7_put 12 = .ok (.getfield 121, 3) := by decide +kernel
theorem dX7_put_15 : decode cX7_put 15 = .ok (.iconst 1, 1) := by decide +kernel
theorem dX7_put_16 : decode cX7_put 16 = .ok (.iadd, 1) := by decide +kernel
theorem dX7_put_17 : decode cX7_put 17 = .ok (.putfield 121, 3) := by decide +kernel
theorem dX7_put_20 : decode cX7_put 20 = .ok (.return_, 1) := by decide +kernel
theorem dX7_putRest_0 : decode cX7_putRest 0 = .ok (.aload_n 0, 1) := by decide +kernel
theorem dX7_putRest_1 : decode cX7_putRest 1 = .ok (.aload_n 0, 1) := by decide +kernel
theorem dX7_putRest_2 : decode cX7_putRest 2 = .ok (.getfield 86, 3) := by decide +kernel
theorem dX7_putRest_5 : decode cX7_putRest 5 = .ok (.iconst 2, 1) := by decide +kernel
theorem dX7_putRest_6 : decode cX7_putRest 6 = .ok (.iaload, 1) := by decide +kernel
theorem dX7_putRest_7 : decode cX7_putRest 7 = .ok (.sipush 128, 3) := by decide +kernel
theorem dX7_putRest_10 : decode cX7_putRest 10 = .ok (.iand, 1) := by decide +kernel
theorem dX7_putRest_11 : decode cX7_putRest 11 = .ok (.invokevirtual 124, 3) := by decide +kernel
theorem dX7_putRest_14 : decode cX7_putRest 14 = .ok (.iconst 3, 1) := by decide +kernel
theorem dX7_putRest_15 : decode cX7_putRest 15 = .ok (.istore_n 2, 1) := by decide +kernel
theorem dX7_putRest_16 : decode cX7_putRest 16 = .ok (.iload_n 2, 1) := by decide +kernel
theorem dX7_putRest_17 : decode cX7_putRest 17 = .ok (.bipush 11, 2) := by decide +kernel
theorem dX7_putRest_19 : decode cX7_putRest 19 = .ok (.if_icmp .ge 19, 3) := by decide +kernel
theorem dX7_putRest_22 : decode cX7_putRest 22 = .ok (.aload_n 0, 1) := by decide +kernel
theorem dX7_putRest_23 : decode cX7_putRest 23 = .ok (.aload_n 0, 1) := by decide +kernel
theorem dX7_putRest_24 : decode cX7_putRest 24 = .ok (.getfield 86, 3) := by decide +kernel
theorem dX7_putRest_27 : decode cX7_putRest 27 = .ok (.iload_n 2, 1) := by decide +kernel
theorem dX7_putRest_28 : decode cX7_putRest 28 = .ok (.iaload, 1) := by decide +kernel
theorem dX7_putRest_29 : decode cX7_putRest 29 = .ok (.invokevirtual 124, 3) := by decide +kernel
theorem dX7_putRest_32 : decode cX7_putRest 32 = .ok (.iinc 2 1, 3) := by decide +kernel
theorem dX7_putRest_35 : decode cX7_putRest 35 = .ok (.goto (-19), 3) := by decide +kernel
theorem dX7_putRest_38 : decode cX7_putRest 38 = .ok (.aload_n 0, 1) := by decide +kernel
theorem dX7_putRest_39 : decode cX7_putRest 39 = .ok (.aload_n 0, 1) := by decide +kernel
theorem dX7_putRest_40 : decode cX7_putRest 40 = .ok (.bipush 8, 2) := by decide +kernel
theorem dX7_putRest_42 : decode cX7_putRest 42 = .ok (.iload_n 1, 1) := by decide +kernel
theorem dX7_putRest_43 : decode cX7_putRest 43 = .ok (.invokevirtual 128, 3) := by decide +kernel
theorem dX7_putRest_46 : decode cX7_putRest 46 = .ok (.invokevirtual 124, 3) := by decide +kernel
theorem dX7_putRest_49 : decode cX7_putRest 49 = .ok (.return_, 1) := by decide +kernel
theorem dX7_write_0 : decode cX7_write 0 = .ok (.aload_n 0, 1) := by decide +kernel
theorem dX7_write_1 : decode cX7_write 1 = .ok (.iconst 0, 1) := by decide +kernel
theorem dX7_write_2 : decode cX7_write 2 = .ok (.putfield 121, 3) := by decide +kernel
theorem dX7_write_5 : decode cX7_write 5 = .ok (.iload_n 1, 1) := by decide +kernel
theorem dX7_write_6 : decode cX7_write 6 = .ok (.ifCond .le 12, 3) := by decide +kernel
theorem dX7_write_9 : decode cX7_write 9 = .ok (.aload_n 0, 1) := by decide +kernel
theorem dX7_write_10 : decode cX7_write 10 = .ok (.sipush 224, 3) := by decide +kernel
theorem dX7_write_13 : decode cX7_write 13 = .ok (.iload_n 1, 1) := by decide +kernel
theorem dX7_write_14 : decode cX7_write 14 = .ok (.iadd, 1) := by decide +kernel
theorem dX7_write_15 : decode cX7_write 15 = .ok (.invokevirtual 124, 3) := by decide +kernel
theorem dX7_write_18 : decode cX7_write 18 = .ok (.iload_n 2, 1) := by decide +kernel
theorem dX7_write_19 : decode cX7_write 19 = .ok (.ifCond .ne 25, 3) := by decide +kernel
theorem dX7_write_22 : decode cX7_write 22 = .ok (.aload_n 0, 1) := by decide +kernel
theorem dX7_write_23 : decode cX7_write 23 = .ok (.iload_n 3, 1) := by decide +kernel
theorem dX7_write_24 : decode cX7_write 24 = .ok (.bipush 16, 2) := by decide +kernel
theorem dX7_write_26 : decode cX7_write 26 = .ok (.irem, 1) := by decide +kernel
theorem dX7_write_27 : decode cX7_write 27 = .ok (.bipush 8, 2) := by decide +kernel
theorem dX7_write_29 : decode cX7_write 29 = .ok (.imul, 1) := by decide +kernel
theorem dX7_write_30 : decode cX7_write 30 = .ok (.aload_n 0, 1) := by decide +kernel
theorem dX7_write_31 : decode cX7_write 31 = .ok (.iconst 3, 1) := by decide +kernel
theorem dX7_write_32 : decode cX7_write 32 = .ok (.bipush 11, 2) := by decide +kernel
theorem dX7_write_34 : decode cX7_write 34 = .ok (.invokevirtual 128, 3) := by decide +kernel
theorem dX7_write_37 : decode cX7_write 37 = .ok (.iadd, 1) := by decide +kernel
theorem dX7_write_38 : decode cX7_write 38 = .ok (.invokevirtual 124, 3) := by decide +kernel
theorem dX7_write_41 : decode cX7_write 41 = .ok (.goto 228, 3) := by decide +kernel
theorem dX7_write_44 : decode cX7_write 44 = .ok (.iload_n 2, 1) := by decide +kernel
theorem dX7_write_45 : decode cX7_write 45 = .ok (.iconst 1, 1) := by decide +kernel
theorem dX7_write_46 : decode cX7_write 46 = .ok (.if_icmp .ne 45, 3) := by decide +kernel
theorem dX7_write_49 : decode cX7_write 49 = .ok (.aload_n 0, 1) := by decide +kernel
theorem dX7_write_50 : decode cX7_write 50 = .ok (.sipush 128, 3) := by decide +kernel
theorem dX7_write_53 : decode cX7_write 53 = .ok (.iload_n 3, 1) := by decide +kernel
theorem dX7_write_54 : decode cX7_write 54 = .ok (.bipush 64, 2) := by decide +kernel
theorem dX7_write_56 : decode cX7_write 56 = .ok (.irem, 1) := by decide +kernel
theorem dX7_write_57 : decode cX7_write 57 = .ok (.iadd, 1) := by decide +kernel
theorem dX7_write_58 : decode cX7_write 58 = .ok (.invokevirtual 124, 3) := by decide +kernel
theorem dX7_write_61 : decode cX7_write 61 = .ok (.aload_n 0, 1) := by decide +kernel
theorem dX7_write_62 : decode cX7_write 62 = .ok (.aload_n 0, 1) := by decide +kernel
theorem dX7_write_63 : decode cX7_write 63 = .ok (.getfield 110, 3) := by decide +kernel
theorem dX7_write_66 : decode cX7_write 66 = .ok (.ifCond .eq 9, 3) := by decide +kernel
theorem dX7_write_69 : decode cX7_write 69 = .ok (.sipush 128, 3) := by decide +kernel
theorem dX7_write_72 : decode cX7_write 72 = .ok (.goto 4, 3) := by decide +kernel
theorem dX7_write_75 : decode cX7_write 75 = .ok (.iconst 0, 1) := by decide +kernel
theorem dX7_write_76 : decode cX7_write 76 = .ok (.aload_n 0, 1) := by decide +kernel
theorem dX7_write_77 : decode cX7_write 77 = .ok (.bipush 7, 2) := by decide +kernel
theorem dX7_write_79 : decode cX7_write 79 = .ok (.bipush 11, 2) := by decide +kernel
theorem dX7_write_81 : decode cX7_write 81 = .ok (.invokevirtual 128, 3) := by decide +kernel
theorem dX7_write_84 : decode cX7_write 84 = .ok (.iadd, 1) := by decide +kernel
theorem dX7_write_85 : decode cX7_write 85 = .ok (.invokevirtual 124, 3) := by decide +kernel
theorem dX7_write_88 : decode cX7_write 88 = .ok (.goto 181, 3) := by decide +kernel
theorem dX7_write_91 : decode cX7_write 91 = .ok (.iload_n 2, 1) := by decide +kernel
theorem dX7_write_92 : decode cX7_write 92 = .ok (.iconst 2, 1) := by decide +kernel
theorem dX7_write_93 : decode cX7_write 93 = .ok (.if_icmp .ne 58, 3) := by decide +kernel
theorem dX7_write_96 : decode cX7_write 96 = .ok (.aload_n 0, 1) := by decide +kernel
theorem dX7_write_97 : decode cX7_write 97 = .ok (.sipush 192, 3) := by decide +kernel
theorem dX7_write_100 : decode cX7_write 100 = .ok (.iload_n 3, 1) := by decide +kernel
theorem dX7_write_101 : decode cX7_write 101 = .ok (.sipush 1024, 3) := by decide +kernel
theorem dX7_write_104 : decode cX7_write 104 = .ok (.irem, 1) := by decide +kernel
theorem dX7_write_105 : decode cX7_write 105 = .ok (.bipush 32, 2) := by decide +kernel
theorem dX7_write_107 : decode cX7_write 107 = .ok (.idiv, 1) := by decide +kernel
theorem dX7_write_108 : decode cX7_write 108 = .ok (.iadd, 1) := by decide +kernel
theorem dX7_write_109 : decode cX7_write 109 = .ok (.invokevirtual 124, 3) := by decide +kernel
theorem dX7_write_112 : decode cX7_write 112 = .ok (.aload_n 0, 1) := by decide +kernel
theorem dX7_write_113 : decode cX7_write 113 = .ok (.iload_n 3, 1) := by decide +kernel
theorem dX7_write_114 : decode cX7_write 114 = .ok (.bipush 32, 2) := by decide +kernel
theorem dX7_write_116 : decode cX7_write 116 = .ok (.irem, 1) := by decide +kernel
theorem dX7_write_117 : decode cX7_write 117 = .ok (.bipush 8, 2) := by decide +kernel
theorem dX7_write_119 : decode cX7_write 119 = .ok (.imul, 1) := by decide +kernel
theorem dX7_write_120 : decode cX7_write 120 = .ok (.aload_n 0, 1) := by decide +kernel
theorem dX7_write_121 : decode cX7_write 121 = .ok (.getfield 110, 3) := by decide +kernel
theorem dX7_write_124 : decode cX7_write 124 = .ok (.ifCond .eq 7, 3) := by decide +kernel
theorem dX7_write_127 : decode cX7_write 127 = .ok (.iconst 4, 1) := by decide +kernel
theorem dX7_write_128 : decode cX7_write 128 = .ok (.goto 4, 3) := by decide +kernel
theorem dX7_write_131 : decode cX7_write 131 = .ok (.iconst 0, 1) := by decide +kernel
theorem dX7_write_132 : decode cX7_write 132 = .ok (.iadd, 1) := by decide +kernel
theorem dX7_write_133 : decode cX7_write 133 = .ok (.invokevirtual 124, 3) := by decide +kernel
theorem dX7_write_136 : decode cX7_write 136 = .ok (.aload_n 0, 1) := by decide +kernel
theorem dX7_write_137 : decode cX7_write 137 = .ok (.aload_n 0, 1) := by decide +kernel
theorem dX7_write_138 : decode cX7_write 138 = .ok (.bipush 8, 2) := by decide +kernel
theorem dX7_write_140 : decode cX7_write 140 = .ok (.bipush 11, 2) := by decide +kernel
theorem dX7_write_142 : decode cX7_write 142 = .ok (.invokevirtual 128, 3) := by decide +kernel
theorem dX7_write_145 : decode cX7_write 145 = .ok (.invokevirtual 124, 3) := by decide +kernel
theorem dX7_write_148 : decode cX7_write 148 = .ok (.goto 121, 3) := by decide +kernel
theorem dX7_write_151 : decode cX7_write 151 = .ok (.iload_n 2, 1) := by decide +kernel
theorem dX7_write_152 : decode cX7_write 152 = .ok (.iconst 3, 1) := by decide +kernel
theorem dX7_write_153 : decode cX7_write 153 = .ok (.if_icmp .ne 19, 3) := by decide +kernel
theorem dX7_write_156 : decode cX7_write 156 = .ok (.aload_n 0, 1) := by decide +kernel
theorem dX7_write_157 : decode cX7_write 157 = .ok (.sipush 248, 3) := by decide +kernel
theorem dX7_write_160 : decode cX7_write 160 = .ok (.invokevirtual 124, 3) := by decide +kernel
theorem dX7_write_163 : decode cX7_write 163 = .ok (.aload_n 0, 1) := by decide +kernel
theorem dX7_write_164 : decode cX7_write 164 = .ok (.bipush 11, 2) := by decide +kernel
theorem dX7_write_166 : decode cX7_write 166 = .ok (.invokevirtual 132, 3) := by decide +kernel
theorem dX7_write_169 : decode cX7_write 169 = .ok (.goto 100, 3) := by decide +kernel
theorem dX7_write_172 : decode cX7_write 172 = .ok (.aload_n 0, 1) := by decide +kernel
theorem dX7_write_173 : decode cX7_write 173 = .ok (.getfield 86, 3) := by decide +kernel
theorem dX7_write_176 : decode cX7_write 176 = .ok (.bipush 11, 2) := by decide +kernel
theorem dX7_write_178 : decode cX7_write 178 = .ok (.aload_n 0, 1) := by decide +kernel
theorem dX7_write_179 : decode cX7_write 179 = .ok (.getfield 7, 3) := by decide +kernel
theorem dX7_write_182 : decode cX7_write 182 = .ok (.iload_n 1, 1) := by decide +kernel
theorem dX7_write_183 : decode cX7_write 183 = .ok (.iaload, 1) := by decide +kernel
theorem dX7_write_184 : decode cX7_write 184 = .ok (.sipush 256, 3) := by decide +kernel
theorem dX7_write_187 : decode cX7_write 187 = .ok (.idiv, 1) := by decide +kernel
theorem dX7_write_188 : decode cX7_write 188 = .ok (.iastore, 1) := by decide +kernel
theorem dX7_write_189 : decode cX7_write 189 = .ok (.aload_n 0, 1) := by decide +kernel
theorem dX7_write_190 : decode cX7_write 190 = .ok (.getfield 86, 3) := by decide +kernel
theorem dX7_write_193 : decode cX7_write 193 = .ok (.bipush 12, 2) := by decide +kernel
theorem dX7_write_195 : decode cX7_write 195 = .ok (.aload_n 0, 1) := by decide +kernel
theorem dX7_write_196 : decode cX7_write 196 = .ok (.getfield 7, 3) := by decide +kernel
theorem dX7_write_199 : decode cX7_write 199 = .ok (.iload_n 1, 1) := by decide +kernel
theorem dX7_write_200 : decode cX7_write 200 = .ok (.iaload, 1) := by decide +kernel
theorem dX7_write_201 : decode cX7_write 201 = .ok (.sipush 256, 3) := by decide +kernel
theorem dX7_write_204 : decode cX7_write 204 = .ok (.irem, 1) := by decide +kernel
theorem dX7_write_205 : decode cX7_write 205 = .ok (.iastore, 1) := by decide +kernel
theorem dX7_write_206 : decode cX7_write 206 = .ok (.aload_n 0, 1) := by decide +kernel
theorem dX7_write_207 : decode cX7_write 207 = .ok (.sipush 253, 3) := by decide +kernel
theorem dX7_write_210 : decode cX7_write 210 = .ok (.invokevirtual 124, 3) := by decide +kernel
theorem dX7_write_213 : decode cX7_write 213 = .ok (.aload_n 0, 1) := by decide +kernel
theorem dX7_write_214 : decode cX7_write 214 = .ok (.aload_n 0, 1) := by decide +kernel
theorem dX7_write_215 : decode cX7_write 215 = .ok (.getfield 86, 3) := by decide +kernel
theorem dX7_write_218 : decode cX7_write 218 = .ok (.iconst 0, 1) := by decide +kernel
theorem dX7_write_219 : decode cX7_write 219 = .ok (.iaload, 1) := by decide +kernel
theorem dX7_write_220 : decode cX7_write 220 = .ok (.invokevirtual 124, 3) := by decide +kernel
theorem dX7_write_223 : decode cX7_write 223 = .ok (.aload_n 0, 1) := by decide +kernel
theorem dX7_write_224 : decode cX7_write 224 = .ok (.aload_n 0, 1) := by decide +kernel
theorem dX7_write_225 : decode cX7_write 225 = .ok (.getfield 86, 3) := by decide +kernel
theorem dX7_write_228 : decode cX7_write 228 = .ok (.iconst 1, 1) := by decide +kernel
theorem dX7_write_229 : decode cX7_write 229 = .ok (.iaload, 1) := by decide +kernel
theorem dX7_write_230 : decode cX7_write 230 = .ok (.invokevirtual 124, 3) := by decide +kernel
theorem dX7_write_233 : decode cX7_write 233 = .ok (.aload_n 0, 1) := by decide +kernel
theorem dX7_write_234 : decode cX7_write 234 = .ok (.aload_n 0, 1) := by decide +kernel
theorem dX7_write_235 : decode cX7_write 235 = .ok (.getfield 107, 3) := by decide +kernel
theorem dX7_write_238 : decode cX7_write 238 = .ok (.invokevirtual 124, 3) := by decide +kernel
theorem dX7_write_241 : decode cX7_write 241 = .ok (.aload_n 0, 1) := by decide +kernel
theorem dX7_write_242 : decode cX7_write 242 = .ok (.aload_n 0, 1) := by decide +kernel
theorem dX7_write_243 : decode cX7_write 243 = .ok (.getfield 86, 3) := by decide +kernel
theorem dX7_write_246 : decode cX7_write 246 = .ok (.bipush 11, 2) := by decide +kernel
theorem dX7_write_248 : decode cX7_write 248 = .ok (.iaload, 1) := by decide +kernel
theorem dX7_write_249 : decode cX7_write 249 = .ok (.invokevirtual 124, 3) := by decide +kernel
theorem dX7_write_252 : decode cX7_write 252 = .ok (.aload_n 0, 1) := by decide +kernel
theorem dX7_write_253 : decode cX7_write 253 = .ok (.aload_n 0, 1) := by decide +kernel
theorem dX7_write_254 : decode cX7_write 254 = .ok (.getfield 86, 3) := by decide +kernel
theorem dX7_write_257 : decode cX7_write 257 = .ok (.bipush 12, 2) := by decide +kernel
theorem dX7_write_259 : decode cX7_write 259 = .ok (.iaload, 1) := by decide +kernel
theorem dX7_write_260 : decode cX7_write 260 = .ok (.invokevirtual 124, 3) := by decide +kernel
theorem dX7_write_263 : decode cX7_write 263 = .ok (.aload_n 0, 1) := by decide +kernel
theorem dX7_write_264 : decode cX7_write 264 = .ok (.bipush 13, 2) := by decide +kernel
theorem dX7_write_266 : decode cX7_write 266 = .ok (.invokevirtual 132, 3) := by decide +kernel
theorem dX7_write_269 : decode cX7_write 269 = .ok (.return_, 1) := by decide +kernel
theorem dX7_choose_0 : decode cX7_choose 0 = .ok (.aload_n 0, 1) := by decide +kernel
theorem dX7_choose_1 : decode cX7_choose 1 = .ok (.getfield 32, 3) := by decide +kernel
theorem dX7_choose_4 : decode cX7_choose 4 = .ok (.iload_n 1, 1) := by decide +kernel
theorem dX7_choose_5 : decode cX7_choose 5 = .ok (.iaload, 1) := by decide +kernel
theorem dX7_choose_6 : decode cX7_choose 6 = .ok (.iconst 2, 1) := by decide +kernel
theorem dX7_choose_7 : decode cX7_choose 7 = .ok (.if_icmp .ge 18, 3) := by decide +kernel
theorem dX7_choose_10 : decode cX7_choose 10 = .ok (.aload_n 0, 1) := by decide +kernel
theorem dX7_choose_11 : decode cX7_choose 11 = .ok (.getfield 32, 3) := by decide +kernel
theorem dX7_choose_14 : decode cX7_choose 14 = .ok (.iload_n 1, 1) := by decide +kernel
theorem dX7_choose_15 : decode cX7_choose 15 = .ok (.iaload, 1) := by decide +kernel
theorem dX7_choose_16 : decode cX7_choose 16 = .ok (.ifCond .ne 7, 3) := by decide +kernel
theorem dX7_choose_19 : decode cX7_choose 19 = .ok (.iconst 4, 1) := by decide +kernel
theorem dX7_choose_20 : decode cX7_choose 20 = .ok (.goto 4, 3) := by decide +kernel
theorem dX7_choose_23 : decode cX7_choose 23 = .ok (.iconst 3, 1) := by decide +kernel
theorem dX7_choose_24 : decode cX7_choose 24 = .ok (.ireturn, 1) := by decide +kernel
theorem dX7_choose_25 : decode cX7_choose 25 = .ok (.aload_n 0, 1) := by decide +kernel
theorem dX7_choose_26 : decode cX7_choose 26 = .ok (.getfield 110, 3) := by decide +kernel
theorem dX7_choose_29 : decode cX7_choose 29 = .ok (.ifCond .ne 15, 3) := by decide +kernel
theorem dX7_choose_32 : decode cX7_choose 32 = .ok (.aload_n 0, 1) := by decide +kernel
theorem dX7_choose_33 : decode cX7_choose 33 = .ok (.iload_n 1, 1) := by decide +kernel
theorem dX7_choose_34 : decode cX7_choose 34 = .ok (.iconst 0, 1) := by decide +kernel
theorem dX7_choose_35 : decode cX7_choose 35 = .ok (.iload_n 2, 1) := by decide +kernel
theorem dX7_choose_36 : decode cX7_choose 36 = .ok (.invokevirtual 135, 3) := by decide +kernel
theorem dX7_choose_39 : decode cX7_choose 39 = .ok (.ifCond .eq 5, 3) := by decide +kernel
theorem dX7_choose_42 : decode cX7_choose 42 = .ok (.iconst 0, 1) := by decide +kernel
theorem dX7_choose_43 : decode cX7_choose 43 = .ok (.ireturn, 1) := by decide +kernel
theorem dX7_choose_44 : decode cX7_choose 44 = .ok (.aload_n 0, 1) := by decide +kernel
theorem dX7_choose_45 : decode cX7_choose 45 = .ok (.iload_n 1, 1) := by decide +kernel
theorem dX7_choose_46 : decode cX7_choose 46 = .ok (.iconst 1, 1) := by decide +kernel
theorem dX7_choose_47 : decode cX7_choose 47 = .ok (.iload_n 2, 1) := by decide +kernel
theorem dX7_choose_48 : decode cX7_choose 48 = .ok (.invokevirtual 135, 3) := by decide +kernel
theorem dX7_choose_51 : decode cX7_choose 51 = .ok (.ifCond .eq 7, 3) := by decide +kernel
theorem dX7_choose_54 : decode cX7_choose 54 = .ok (.iconst 1, 1) := by decide +kernel
theorem dX7_choose_55 : decode cX7_choose 55 = .ok (.goto 18, 3) := by decide +kernel
theorem dX7_choose_58 : decode cX7_choose 58 = .ok (.aload_n 0, 1) := by decide +kernel
theorem dX7_choose_59 : decode cX7_choose 59 = .ok (.iload_n 1, 1) := by decide +kernel
theorem dX7_choose_60 : decode cX7_choose 60 = .ok (.iconst 2, 1) := by decide +kernel
theorem dX7_choose_61 : decode cX7_choose 61 = .ok (.iload_n 2, 1) := by decide +kernel
theorem dX7_choose_62 : decode cX7_choose 62 = .ok (.invokevirtual 135, 3) := by decide +kernel
theorem dX7_choose_65 : decode cX7_choose 65 = .ok (.ifCond .eq 7, 3) := by decide +kernel
theorem dX7_choose_68 : decode cX7_choose 68 = .ok (.iconst 2, 1) := by decide +kernel
theorem dX7_choose_69 : decode cX7_choose 69 = .ok (.goto 4, 3) := by decide +kernel
theorem dX7_choose_72 : decode cX7_choose 72 = .ok (.iconst 3, 1) := by decide +kernel
theorem dX7_choose_73 : decode cX7_choose 73 = .ok (.ireturn, 1) := by decide +kernel
theorem dX7_note_0 : decode cX7_note 0 = .ok (.aload_n 0, 1) := by decide +kernel
theorem dX7_note_1 : decode cX7_note 1 = .ok (.getfield 41, 3) := by decide +kernel
theorem dX7_note_4 : decode cX7_note 4 = .ok (.iload_n 1, 1) := by decide +kernel
theorem dX7_note_5 : decode cX7_note 5 = .ok (.iaload, 1) := by decide +kernel
theorem dX7_note_6 : decode cX7_note 6 = .ok (.iconst 4, 1) := by decide +kernel
theorem dX7_note_7 : decode cX7_note 7 = .ok (.if_icmp .ne 45, 3) := by decide +kernel
theorem dX7_note_10 : decode cX7_note 10 = .ok (.iconst 0, 1) := by decide +kernel
theorem dX7_note_11 : decode cX7_note 11 = .ok (.istore_n 3, 1) := by decide +kernel
theorem dX7_note_12 : decode cX7_note 12 = .ok (.iload_n 3, 1) := by decide +kernel
theorem dX7_note_13 : decode cX7_note 13 = .ok (.iconst 3, 1) := by decide +kernel
theorem dX7_note_14 : decode cX7_note 14 = .ok (.if_icmp .ge 31, 3) := by decide +kernel
theorem dX7_note_17 : decode cX7_note 17 = .ok (.aload_n 0, 1) := by decide +kernel
theorem dX7_note_18 : decode cX7_note 18 = .ok (.getfield 44, 3) := by decide +kernel
theorem dX7_note_21 : decode cX7_note 21 = .ok (.iconst 4, 1) := by decide +kernel
theorem dX7_note_22 : decode cX7_note 22 = .ok (.iload_n 1, 1) := by decide +kernel
theorem dX7_note_23 : decode cX7_note 23 = .ok (.imul, 1) := by decide +kernel
theorem dX7_note_24 : decode cX7_note 24 = .ok (.iload_n 3, 1) := by decide +kernel
theorem dX7_note_25 : decode cX7_note 25 = .ok (.iadd, 1) := by decide +kernel
theorem dX7_note_26 : decode cX7_note 26 = .ok (.aload_n 0, 1) := by decide +kernel
theorem dX7_note_27 : decode cX7_note 27 = .ok (.getfield 44, 3) := by decide +kernel
theorem dX7_note_30 : decode cX7_note 30 = .ok (.iconst 4, 1) := by decide +kernel
theorem dX7_note_31 : decode cX7_note 31 = .ok (.iload_n 1, 1) := by decide +kernel
theorem dX7_note_32 : decode cX7_note 32 = .ok (.imul, 1) := by decide +kernel
theorem dX7_note_33 : decode cX7_note 33 = .ok (.iload_n 3, 1) := by decide +kernel
theorem dX7_note_34 : decode cX7_note 34 = .ok (.iadd, 1) := by decide +kernel
theorem dX7_note_35 : decode cX7_note 35 = .ok (.iconst 1, 1) := by decide +kernel
theorem dX7_note_36 : decode cX7_note 36 = .ok (.iadd, 1) := by decide +kernel
theorem dX7_note_37 : decode cX7_note 37 = .ok (.iaload, 1) := by decide +kernel
theorem dX7_note_38 : decode cX7_note 38 = .ok (.iastore, 1) := by decide +kernel
theorem dX7_note_39 : decode cX7_note 39 = .ok (.iinc 3 1, 3) := by decide +kernel
theorem dX7_note_42 : decode cX7_note 42 = .ok (.goto (-30), 3) := by decide +kernel
theorem dX7_note_45 : decode cX7_note 45 = .ok (.aload_n 0, 1) := by decide +kernel
theorem dX7_note_46 : decode cX7_note 46 = .ok (.getfield 41, 3) := by decide +kernel
theorem dX7_note_49 : decode cX7_note 49 = .ok (.iload_n 1, 1) := by decide +kernel
theorem dX7_note_50 : decode cX7_note 50 = .ok (.iconst 3, 1) := by decide +kernel
theorem dX7_note_51 : decode cX7_note 51 = .ok (.iastore, 1) := by decide +kernel
theorem dX7_note_52 : decode cX7_note 52 = .ok (.aload_n 0, 1) := by decide +kernel
theorem dX7_note_53 : decode cX7_note 53 = .ok (.getfield 44, 3) := by decide +kernel
theorem dX7_note_56 : decode cX7_note 56 = .ok (.iconst 4, 1) := by decide +kernel
theorem dX7_note_57 : decode cX7_note 57 = .ok (.iload_n 1, 1) := by decide +kernel
theorem dX7_note_58 : decode cX7_note 58 = .ok (.imul, 1) := by decide +kernel
theorem dX7_note_59 : decode cX7_note 59 = .ok (.aload_n 0, 1) := by decide +kernel
theorem dX7_note_60 : decode cX7_note 60 = .ok (.getfield 41, 3) := by decide +kernel
theorem dX7_note_63 : decode cX7_note 63 = .ok (.iload_n 1, 1) := by decide +kernel
theorem dX7_note_64 : decode cX7_note 64 = .ok (.iaload, 1) := by decide +kernel
theorem dX7_note_65 : decode cX7_note 65 = .ok (.iadd, 1) := by decide +kernel
theorem dX7_note_66 : decode cX7_note 66 = .ok (.iload_n 2, 1) := by decide +kernel
theorem dX7_note_67 : decode cX7_note 67 = .ok (.iastore, 1) := by decide +kernel
theorem dX7_note_68 : decode cX7_note 68 = .ok (.aload_n 0, 1) := by decide +kernel
theorem dX7_note_69 : decode cX7_note 69 = .ok (.getfield 41, 3) := by decide +kernel
theorem dX7_note_72 : decode cX7_note 72 = .ok (.iload_n 1, 1) := by decide +kernel
theorem dX7_note_73 : decode cX7_note 73 = .ok (.dup2, 1) := by decide +kernel
theorem dX7_note_74 : decode cX7_note 74 = .ok (.iaload, 1) := by decide +kernel
theorem dX7_note_75 : decode cX7_note 75 = .ok (.iconst 1, 1) := by decide +kernel
theorem dX7_note_76 : decode cX7_note 76 = .ok (.iadd, 1) := by decide +kernel
theorem dX7_note_77 : decode cX7_note 77 = .ok (.iastore, 1) := by decide +kernel
theorem dX7_note_78 : decode cX7_note 78 = .ok (.return_, 1) := by decide +kernel
theorem dX7_send_0 : decode cX7_send 0 = .ok (.aload_n 0, 1) := by decide +kernel
theorem dX7_send_1 : decode cX7_send 1 = .ok (.aload_n 0, 1) := by decide +kernel
theorem dX7_send_2 : decode cX7_send 2 = .ok (.iload_n 1, 1) := by decide +kernel
theorem dX7_send_3 : decode cX7_send 3 = .ok (.invokevirtual 97, 3) := by decide +kernel
theorem dX7_send_6 : decode cX7_send 6 = .ok (.ifCond .eq 7, 3) := by decide +kernel
theorem dX7_send_9 : decode cX7_send 9 = .ok (.iconst 1, 1) := by decide +kernel
theorem dX7_send_10 : decode cX7_send 10 = .ok (.goto 25, 3) := by decide +kernel
theorem dX7_send_13 : decode cX7_send 13 = .ok (.aload_n 0, 1) := by decide +kernel
theorem dX7_send_14 : decode cX7_send 14 = .ok (.iload_n 2, 1) := by decide +kernel
theorem dX7_send_15 : decode cX7_send 15 = .ok (.invokevirtual 101, 3) := by decide +kernel
theorem dX7_send_18 : decode cX7_send 18 = .ok (.ifCond .ne 12, 3) := by decide +kernel
theorem dX7_send_21 : decode cX7_send 21 = .ok (.aload_n 0, 1) := by decide +kernel
theorem dX7_send_22 : decode cX7_send 22 = .ok (.iload 4, 2) := by decide +kernel
theorem dX7_send_24 : decode cX7_send 24 = .ok (.invokevirtual 101, 3) := by decide +kernel
theorem dX7_send_27 : decode cX7_send 27 = .ok (.ifCond .eq 7, 3) := by decide +kernel
theorem dX7_send_30 : decode cX7_send 30 = .ok (.iconst 2, 1) := by decide +kernel
theorem dX7_send_31 : decode cX7_send 31 = .ok (.goto 4, 3) := by decide +kernel
theorem dX7_send_34 : decode cX7_send 34 = .ok (.iconst 0, 1) := by decide +kernel
theorem dX7_send_35 : decode cX7_send 35 = .ok (.putfield 92, 3) := by decide +kernel
theorem dX7_send_38 : decode cX7_send 38 = .ok (.aload_n 0, 1) := by decide +kernel
theorem dX7_send_39 : decode cX7_send 39 = .ok (.getfield 92, 3) := by decide +kernel
theorem dX7_send_42 : decode cX7_send 42 = .ok (.ifCond .eq 5, 3) := by decide +kernel
theorem dX7_send_45 : decode cX7_send 45 = .ok (.iconst 0, 1) := by decide +kernel
theorem dX7_send_46 : decode cX7_send 46 = .ok (.ireturn, 1) := by decide +kernel
theorem dX7_send_47 : decode cX7_send 47 = .ok (.iload_n 3, 1) := by decide +kernel
theorem dX7_send_48 : decode cX7_send 48 = .ok (.iload_n 2, 1) := by decide +kernel
theorem dX7_send_49 : decode cX7_send 49 = .ok (.aload_n 0, 1) := by decide +kernel
theorem dX7_send_50 : decode cX7_send 50 = .ok (.getfield 7, 3) := by decide +kernel
theorem dX7_send_53 : decode cX7_send 53 = .ok (.iload_n 1, 1) := by decide +kernel
theorem dX7_send_54 : decode cX7_send 54 = .ok (.iaload, 1) := by decide +kernel
theorem dX7_send_55 : decode cX7_send 55 = .ok (.imul, 1) := by decide +kernel
theorem dX7_send_56 : decode cX7_send 56 = .ok (.isub, 1) := by decide +kernel
theorem dX7_send_57 : decode cX7_send 57 = .ok (.istore 5, 2) := by decide +kernel
theorem dX7_send_59 : decode cX7_send 59 = .ok (.iload 4, 2) := by decide +kernel
theorem dX7_send_61 : decode cX7_send 61 = .ok (.iload_n 2, 1) := by decide +kernel
theorem dX7_send_62 : decode cX7_send 62 = .ok (.isub, 1) := by decide +kernel
theorem dX7_send_63 : decode cX7_send 63 = .ok (.ldc 96, 2) := by decide +kernel
theorem dX7_send_65 : decode cX7_send 65 = .ok (.iand, 1) := by decide +kernel
theorem dX7_send_66 : decode cX7_send 66 = .ok (.istore 6, 2) := by decide +kernel
theorem dX7_send_68 : decode cX7_send 68 = .ok (.aload_n 0, 1) := by decide +kernel
theorem dX7_send_69 : decode cX7_send 69 = .ok (.getfield 13, 3) := by decide +kernel
theorem dX7_send_72 : decode cX7_send 72 = .ok (.iload_n 1, 1) := by decide +kernel
theorem dX7_send_73 : decode cX7_send 73 = .ok (.baload, 1) := by decide +kernel
theorem dX7_send_74 : decode cX7_send 74 = .ok (.ifCond .eq 48, 3) := by decide +kernel
theorem dX7_send_77 : decode cX7_send 77 = .ok (.aload_n 0, 1) := by decide +kernel
theorem dX7_send_78 : decode cX7_send 78 = .ok (.getfield 17, 3) := by decide +kernel
theorem dX7_send_81 : decode cX7_send 81 = .ok (.iload_n 1, 1) := by decide +kernel
theorem dX7_send_82 : decode cX7_send 82 = .ok (.iaload, 1) := by decide +kernel
theorem dX7_send_83 : decode cX7_send 83 = .ok (.aload_n 0, 1) := by decide +kernel
theorem dX7_send_84 : decode cX7_send 84 = .ok (.getfield 104, 3) := by decide +kernel
theorem dX7_send_87 : decode cX7_send 87 = .ok (.if_icmp .ne 35, 3) := by decide +kernel
theorem dX7_send_90 : decode cX7_send 90 = .ok (.aload_n 0, 1) := by decide +kernel
theorem dX7_send_91 : decode cX7_send 91 = .ok (.getfield 20, 3) := by decide +kernel
theorem dX7_send_94 : decode cX7_send 94 = .ok (.iload_n 1, 1) := by decide +kernel
theorem dX7_send_95 : decode cX7_send 95 = .ok (.iaload, 1) := by decide +kernel
theorem dX7_send_96 : decode cX7_send 96 = .ok (.aload_n 0, 1) := by decide +kernel
theorem dX7_send_97 : decode cX7_send 97 = .ok (.getfield 107, 3) := by decide +kernel
theorem dX7_send_100 : decode cX7_send 100 = .ok (.if_icmp .ne 22, 3) := by decide +kernel
theorem dX7_send_103 : decode cX7_send 103 = .ok (.aload_n 0, 1) := by decide +kernel
theorem dX7_send_104 : decode cX7_send 104 = .ok (.getfield 23, 3) := by decide +kernel
theorem dX7_send_107 : decode cX7_send 107 = .ok (.iload_n 1, 1) := by decide +kernel
theorem dX7_send_108 : decode cX7_send 108 = .ok (.iaload, 1) := by decide +kernel
theorem dX7_send_109 : decode cX7_send 109 = .ok (.aload_n 0, 1) := by decide +kernel
theorem dX7_send_110 : decode cX7_send 110 = .ok (.getfield 7, 3) := by decide +kernel
theorem dX7_send_113 : decode cX7_send 113 = .ok (.iload_n 1, 1) := by decide +kernel
theorem dX7_send_114 : decode cX7_send 114 = .ok (.iaload, 1) := by decide +kernel
theorem dX7_send_115 : decode cX7_send 115 = .ok (.if_icmp .ne 7, 3) := by decide +kernel
theorem dX7_send_118 : decode cX7_send 118 = .ok (.iconst 1, 1) := by decide +kernel
theorem dX7_send_119 : decode cX7_send 119 = .ok (.goto 4, 3) := by decide +kernel
theorem dX7_send_122 : decode cX7_send 122 = .ok (.iconst 0, 1) := by decide +kernel
theorem dX7_send_123 : decode cX7_send 123 = .ok (.istore 7, 2) := by decide +kernel
theorem dX7_send_125 : decode cX7_send 125 = .ok (.iload 7, 2) := by decide +kernel
theorem dX7_send_127 : decode cX7_send 127 = .ok (.ifCond .eq 29, 3) := by decide +kernel
theorem dX7_send_130 : decode cX7_send 130 = .ok (.aload_n 0, 1) := by decide +kernel
theorem dX7_send_131 : decode cX7_send 131 = .ok (.getfield 26, 3) := by decide +kernel
theorem dX7_send_134 : decode cX7_send 134 = .ok (.iload_n 1, 1) := by decide +kernel
theorem dX7_send_135 : decode cX7_send 135 = .ok (.iaload, 1) := by decide +kernel
theorem dX7_send_136 : decode cX7_send 136 = .ok (.iload 5, 2) := by decide +kernel
theorem dX7_send_138 : decode cX7_send 138 = .ok (.if_icmp .ne 18, 3) := by decide +kernel
theorem dX7_send_141 : decode cX7_send 141 = .ok (.aload_n 0, 1) := by decide +kernel
theorem dX7_send_142 : decode cX7_send 142 = .ok (.getfield 29, 3) := by decide +kernel
theorem dX7_send_145 : decode cX7_send 145 = .ok (.iload_n 1, 1) := by decide +kernel
theorem dX7_send_146 : decode cX7_send 146 = .ok (.iaload, 1) := by decide +kernel
theorem dX7_send_147 : decode cX7_send 147 = .ok (.iload 6, 2) := by decide +kernel
theorem dX7_send_149 : decode cX7_send 149 = .ok (.if_icmp .ne 7, 3) := by decide +kernel
theorem dX7_send_152 : decode cX7_send 152 = .ok (.iconst 1, 1) := by decide +kernel
theorem dX7_send_153 : decode cX7_send 153 = .ok (.goto 4, 3) := by decide +kernel
theorem dX7_send_156 : decode cX7_send 156 = .ok (.iconst 0, 1) := by decide +kernel
theorem dX7_send_157 : decode cX7_send 157 = .ok (.istore 8, 2) := by decide +kernel
theorem dX7_send_159 : decode cX7_send 159 = .ok (.iload 7, 2) := by decide +kernel
theorem dX7_send_161 : decode cX7_send 161 = .ok (.ifCond .eq 14, 3) := by decide +kernel
theorem dX7_send_164 : decode cX7_send 164 = .ok (.aload_n 0, 1) := by decide +kernel
theorem dX7_send_165 : decode cX7_send 165 = .ok (.getfield 38, 3) := by decide +kernel
theorem dX7_send_168 : decode cX7_send 168 = .ok (.iload_n 1, 1) := by decide +kernel
theorem dX7_send_169 : decode cX7_send 169 = .ok (.iaload, 1) := by decide +kernel
theorem dX7_send_170 : decode cX7_send 170 = .ok (.bipush 20, 2) := by decide +kernel
theorem dX7_send_172 : decode cX7_send 172 = .ok (.if_icmp .ne 20, 3) := by decide +kernel
theorem dX7_send_175 : decode cX7_send 175 = .ok (.aload_n 0, 1) := by decide +kernel
theorem dX7_send_176 : decode cX7_send 176 = .ok (.getfield 32, 3) := by decide +kernel
theorem dX7_send_179 : decode cX7_send 179 = .ok (.iload_n 1, 1) := by decide +kernel
theorem dX7_send_180 : decode cX7_send 180 = .ok (.iconst 0, 1) := by decide +kernel
theorem dX7_send_181 : decode cX7_send 181 = .ok (.iastore, 1) := by decide +kernel
theorem dX7_send_182 : decode cX7_send 182 = .ok (.aload_n 0, 1) := by decide +kernel
theorem dX7_send_183 : decode cX7_send 183 = .ok (.getfield 35, 3) := by decide +kernel
theorem dX7_send_186 : decode cX7_send 186 = .ok (.iload_n 1, 1) := by decide +kernel
theorem dX7_send_187 : decode cX7_send 187 = .ok (.iconst 0, 1) := by decide +kernel
theorem dX7_send_188 : decode cX7_send 188 = .ok (.iastore, 1) := by decide +kernel
theorem dX7_send_189 : decode cX7_send 189 = .ok (.goto 35, 3) := by decide +kernel
theorem dX7_send_192 : decode cX7_send 192 = .ok (.iload 8, 2) := by decide +kernel
theorem dX7_send_194 : decode cX7_send 194 = .ok (.ifCond .ne 30, 3) := by decide +kernel
theorem dX7_send_197 : decode cX7_send 197 = .ok (.aload_n 0, 1) := by decide +kernel
theorem dX7_send_198 : decode cX7_send 198 = .ok (.getfield 32, 3) := by decide +kernel
theorem dX7_send_201 : decode cX7_send 201 = .ok (.iload_n 1, 1) := by decide +kernel
theorem dX7_send_202 : decode cX7_send 202 = .ok (.aload_n 0, 1) := by decide +kernel
theorem dX7_send_203 : decode cX7_send 203 = .ok (.getfield 32, 3) := by decide +kernel
theorem dX7_send_206 : decode cX7_send 206 = .ok (.iload_n 1, 1) := by decide +kernel
theorem dX7_send_207 : decode cX7_send 207 = .ok (.iaload, 1) := by decide +kernel
theorem dX7_send_208 : decode cX7_send 208 = .ok (.ifCond .ne 7, 3) := by decide +kernel
theorem dX7_send_211 : decode cX7_send 211 = .ok (.iconst 0, 1) := by decide +kernel
theorem dX7_send_212 : decode cX7_send 212 = .ok (.goto 4, 3) := by decide +kernel
theorem dX7_send_215 : decode cX7_send 215 = .ok (.iconst 1, 1) := by decide +kernel
theorem dX7_send_216 : decode cX7_send 216 = .ok (.iastore, 1) := by decide +kernel
theorem dX7_send_217 : decode cX7_send 217 = .ok (.aload_n 0, 1) := by decide +kernel
theorem dX7_send_218 : decode cX7_send 218 = .ok (.getfield 35, 3) := by decide +kernel
theorem dX7_send_221 : decode cX7_send 221 = .ok (.iload_n 1, 1) := by decide +kernel
theorem dX7_send_222 : decode cX7_send 222 = .ok (.iconst 0, 1) := by decide +kernel
theorem dX7_send_223 : decode cX7_send 223 = .ok (.iastore, 1) := by decide +kernel
theorem dX7_send_224 : decode cX7_send 224 = .ok (.aload_n 0, 1) := by decide +kernel
theorem dX7_send_225 : decode cX7_send 225 = .ok (.getfield 13, 3) := by decide +kernel
theorem dX7_send_228 : decode cX7_send 228 = .ok (.iload_n 1, 1) := by decide +kernel
theorem dX7_send_229 : decode cX7_send 229 = .ok (.iconst 1, 1) := by decide +kernel
theorem dX7_send_230 : decode cX7_send 230 = .ok (.bastore, 1) := by decide +kernel
theorem dX7_send_231 : decode cX7_send 231 = .ok (.aload_n 0, 1) := by decide +kernel
theorem dX7_send_232 : decode cX7_send 232 = .ok (.getfield 17, 3) := by decide +kernel
theorem dX7_send_235 : decode cX7_send 235 = .ok (.iload_n 1, 1) := by decide +kernel
theorem dX7_send_236 : decode cX7_send 236 = .ok (.aload_n 0, 1) := by decide +kernel
theorem dX7_send_237 : decode cX7_send 237 = .ok (.getfield 104, 3) := by decide +kernel
theorem dX7_send_240 : decode cX7_send 240 = .ok (.iastore, 1) := by decide +kernel
theorem dX7_send_241 : decode cX7_send 241 = .ok (.aload_n 0, 1) := by decide +kernel
theorem dX7_send_242 : decode cX7_send 242 = .ok (.getfield 20, 3) := by decide +kernel
theorem dX7_send_245 : decode cX7_send 245 = .ok (.iload_n 1, 1) := by decide +kernel
theorem dX7_send_246 : decode cX7_send 246 = .ok (.aload_n 0, 1) := by decide +kernel
theorem dX7_send_247 : decode cX7_send 247 = .ok (.getfield 107, 3) := by decide +kernel
theorem dX7_send_250 : decode cX7_send 250 = .ok (.iastore, 1) := by decide +kernel
theorem dX7_send_251 : decode cX7_send 251 = .ok (.aload_n 0, 1) := by decide +kernel
theorem dX7_send_252 : decode cX7_send 252 = .ok (.getfield 23, 3) := by decide +kernel
theorem dX7_send_255 : decode cX7_send 255 = .ok (.iload_n 1, 1) := by decide +kernel
theorem dX7_send_256 : decode cX7_send 256 = .ok (.aload_n 0, 1) := by decide +kernel
theorem dX7_send_257 : decode cX7_send 257 = .ok (.getfield 7, 3) := by decide +kernel
theorem dX7_send_260 : decode cX7_send 260 = .ok (.iload_n 1, 1) := by decide +kernel
theorem dX7_send_261 : decode cX7_send 261 = .ok (.iaload, 1) := by decide +kernel
theorem dX7_send_262 : decode cX7_send 262 = .ok (.iastore, 1) := by decide +kernel
theorem dX7_send_263 : decode cX7_send 263 = .ok (.aload_n 0, 1) := by decide +kernel
theorem dX7_send_264 : decode cX7_send 264 = .ok (.getfield 26, 3) := by decide +kernel
theorem dX7_send_267 : decode cX7_send 267 = .ok (.iload_n 1, 1) := by decide +kernel
theorem dX7_send_268 : decode cX7_send 268 = .ok (.iload 5, 2) := by decide +kernel
theorem dX7_send_270 : decode cX7_send 270 = .ok (.iastore, 1) := by decide +kernel
theorem dX7_send_271 : decode cX7_send 271 = .ok (.aload_n 0, 1) := by decide +kernel
theorem dX7_send_272 : decode cX7_send 272 = .ok (.getfield 29, 3) := by decide +kernel
theorem dX7_send_275 : decode cX7_send 275 = .ok (.iload_n 1, 1) := by decide +kernel
theorem dX7_send_276 : decode cX7_send 276 = .ok (.iload 6, 2) := by decide +kernel
theorem dX7_send_278 : decode cX7_send 278 = .ok (.iastore, 1) := by decide +kernel
theorem dX7_send_279 : decode cX7_send 279 = .ok (.aload_n 0, 1) := by decide +kernel
theorem dX7_send_280 : decode cX7_send 280 = .ok (.iload_n 1, 1) := by decide +kernel
theorem dX7_send_281 : decode cX7_send 281 = .ok (.iload_n 2, 1) := by decide +kernel
theorem dX7_send_282 : decode cX7_send 282 = .ok (.invokevirtual 139, 3) := by decide +kernel
theorem dX7_send_285 : decode cX7_send 285 = .ok (.istore 9, 2) := by decide +kernel
theorem dX7_send_287 : decode cX7_send 287 = .ok (.aload_n 0, 1) := by decide +kernel
theorem dX7_send_288 : decode cX7_send 288 = .ok (.aload_n 0, 1) := by decide +kernel
theorem dX7_send_289 : decode cX7_send 289 = .ok (.getfield 104, 3) := by decide +kernel
theorem dX7_send_292 : decode cX7_send 292 = .ok (.aload_n 0, 1) := by decide +kernel
theorem dX7_send_293 : decode cX7_send 293 = .ok (.getfield 107, 3) := by decide +kernel
theorem dX7_send_296 : decode cX7_send 296 = .ok (.aload_n 0, 1) := by decide +kernel
theorem dX7_send_297 : decode cX7_send 297 = .ok (.getfield 110, 3) := by decide +kernel
theorem dX7_send_300 : decode cX7_send 300 = .ok (.iload_n 2, 1) := by decide +kernel
theorem dX7_send_301 : decode cX7_send 301 = .ok (.iload_n 3, 1) := by decide +kernel
theorem dX7_send_302 : decode cX7_send 302 = .ok (.iload 4, 2) := by decide +kernel
theorem dX7_send_304 : decode cX7_send 304 = .ok (.invokevirtual 142, 3) := by decide +kernel
theorem dX7_send_307 : decode cX7_send 307 = .ok (.aload_n 0, 1) := by decide +kernel
theorem dX7_send_308 : decode cX7_send 308 = .ok (.iload_n 1, 1) := by decide +kernel
theorem dX7_send_309 : decode cX7_send 309 = .ok (.iload 9, 2) := by decide +kernel
theorem dX7_send_311 : decode cX7_send 311 = .ok (.iload_n 2, 1) := by decide +kernel
theorem dX7_send_312 : decode cX7_send 312 = .ok (.invokevirtual 146, 3) := by decide +kernel
theorem dX7_send_315 : decode cX7_send 315 = .ok (.aload_n 0, 1) := by decide +kernel
theorem dX7_send_316 : decode cX7_send 316 = .ok (.getfield 83, 3) := by decide +kernel
theorem dX7_send_319 : decode cX7_send 319 = .ok (.iload 9, 2) := by decide +kernel
theorem dX7_send_321 : decode cX7_send 321 = .ok (.dup2, 1) := by decide +kernel
theorem dX7_send_322 : decode cX7_send 322 = .ok (.iaload, 1) := by decide +kernel
theorem dX7_send_323 : decode cX7_send 323 = .ok (.iconst 1, 1) := by decide +kernel
theorem dX7_send_324 : decode cX7_send 324 = .ok (.iadd, 1) := by decide +kernel
theorem dX7_send_325 : decode cX7_send 325 = .ok (.iastore, 1) := by decide +kernel
theorem dX7_send_326 : decode cX7_send 326 = .ok (.aload_n 0, 1) := by decide +kernel
theorem dX7_send_327 : decode cX7_send 327 = .ok (.getfield 83, 3) := by decide +kernel
theorem dX7_send_330 : decode cX7_send 330 = .ok (.iconst 5, 1) := by decide +kernel
theorem dX7_send_331 : decode cX7_send 331 = .ok (.dup2, 1) := by decide +kernel
theorem dX7_send_332 : decode cX7_send 332 = .ok (.iaload, 1) := by decide +kernel
theorem dX7_send_333 : decode cX7_send 333 = .ok (.aload_n 0, 1) := by decide +kernel
theorem dX7_send_334 : decode cX7_send 334 = .ok (.getfield 121, 3) := by decide +kernel
theorem dX7_send_337 : decode cX7_send 337 = .ok (.iadd, 1) := by decide +kernel
theorem dX7_send_338 : decode cX7_send 338 = .ok (.iastore, 1) := by decide +kernel
theorem dX7_send_339 : decode cX7_send 339 = .ok (.aload_n 0, 1) := by decide +kernel
theorem dX7_send_340 : decode cX7_send 340 = .ok (.getfield 38, 3) := by decide +kernel
theorem dX7_send_343 : decode cX7_send 343 = .ok (.iload_n 1, 1) := by decide +kernel
theorem dX7_send_344 : decode cX7_send 344 = .ok (.iload 9, 2) := by decide +kernel
theorem dX7_send_346 : decode cX7_send 346 = .ok (.iconst 4, 1) := by decide +kernel
theorem dX7_send_347 : decode cX7_send 347 = .ok (.if_icmp .ne 7, 3) := by decide +kernel
theorem dX7_send_350 : decode cX7_send 350 = .ok (.iconst 0, 1) := by decide +kernel
theorem dX7_send_351 : decode cX7_send 351 = .ok (.goto 11, 3) := by decide +kernel
theorem dX7_send_354 : decode cX7_send 354 = .ok (.aload_n 0, 1) := by decide +kernel
theorem dX7_send_355 : decode cX7_send 355 = .ok (.getfield 38, 3) := by decide +kernel
theorem dX7_send_358 : decode cX7_send 358 = .ok (.iload_n 1, 1) := by decide +kernel
theorem dX7_send_359 : decode cX7_send 359 = .ok (.iaload, 1) := by decide +kernel
theorem dX7_send_360 : decode cX7_send 360 = .ok (.iconst 1, 1) := by decide +kernel
theorem dX7_send_361 : decode cX7_send 361 = .ok (.iadd, 1) := by decide +kernel
theorem dX7_send_362 : decode cX7_send 362 = .ok (.iastore, 1) := by decide +kernel
theorem dX7_send_363 : decode cX7_send 363 = .ok (.aload_n 0, 1) := by decide +kernel
theorem dX7_send_364 : decode cX7_send 364 = .ok (.getfield 35, 3) := by decide +kernel
theorem dX7_send_367 : decode cX7_send 367 = .ok (.iload_n 1, 1) := by decide +kernel
theorem dX7_send_368 : decode cX7_send 368 = .ok (.dup2, 1) := by decide +kernel
theorem dX7_send_369 : decode cX7_send 369 = .ok (.iaload, 1) := by decide +kernel
theorem dX7_send_370 : decode cX7_send 370 = .ok (.iconst 1, 1) := by decide +kernel
theorem dX7_send_371 : decode cX7_send 371 = .ok (.iadd, 1) := by decide +kernel
theorem dX7_send_372 : decode cX7_send 372 = .ok (.iastore, 1) := by decide +kernel
theorem dX7_send_373 : decode cX7_send 373 = .ok (.aload_n 0, 1) := by decide +kernel
theorem dX7_send_374 : decode cX7_send 374 = .ok (.getfield 32, 3) := by decide +kernel
theorem dX7_send_377 : decode cX7_send 377 = .ok (.iload_n 1, 1) := by decide +kernel
theorem dX7_send_378 : decode cX7_send 378 = .ok (.iaload, 1) := by decide +kernel
theorem dX7_send_379 : decode cX7_send 379 = .ok (.iconst 2, 1) := by decide +kernel
theorem dX7_send_380 : decode cX7_send 380 = .ok (.if_icmp .ge 27, 3) := by decide +kernel
theorem dX7_send_383 : decode cX7_send 383 = .ok (.aload_n 0, 1) := by decide +kernel
theorem dX7_send_384 : decode cX7_send 384 = .ok (.getfield 35, 3) := by decide +kernel
theorem dX7_send_387 : decode cX7_send 387 = .ok (.iload_n 1, 1) := by decide +kernel
theorem dX7_send_388 : decode cX7_send 388 = .ok (.iaload, 1) := by decide +kernel
theorem dX7_send_389 : decode cX7_send 389 = .ok (.iconst 3, 1) := by decide +kernel
theorem dX7_send_390 : decode cX7_send 390 = .ok (.if_icmp .ne 17, 3) := by decide +kernel
theorem dX7_send_393 : decode cX7_send 393 = .ok (.aload_n 0, 1) := by decide +kernel
theorem dX7_send_394 : decode cX7_send 394 = .ok (.getfield 32, 3) := by decide +kernel
theorem dX7_send_397 : decode cX7_send 397 = .ok (.iload_n 1, 1) := by decide +kernel
theorem dX7_send_398 : decode cX7_send 398 = .ok (.iconst 2, 1) := by decide +kernel
theorem dX7_send_399 : decode cX7_send 399 = .ok (.iastore, 1) := by decide +kernel
theorem dX7_send_400 : decode cX7_send 400 = .ok (.aload_n 0, 1) := by decide +kernel
theorem dX7_send_401 : decode cX7_send 401 = .ok (.getfield 35, 3) := by decide +kernel
theorem dX7_send_404 : decode cX7_send 404 = .ok (.iload_n 1, 1) := by decide +kernel
theorem dX7_send_405 : decode cX7_send 405 = .ok (.iconst 0, 1) := by decide +kernel
theorem dX7_send_406 : decode cX7_send 406 = .ok (.iastore, 1) := by decide +kernel
theorem dX7_send_407 : decode cX7_send 407 = .ok (.aload_n 0, 1) := by decide +kernel
theorem dX7_send_408 : decode cX7_send 408 = .ok (.iload_n 1, 1) := by decide +kernel
theorem dX7_send_409 : decode cX7_send 409 = .ok (.iload_n 2, 1) := by decide +kernel
theorem dX7_send_410 : decode cX7_send 410 = .ok (.invokevirtual 150, 3) := by decide +kernel
theorem dX7_send_413 : decode cX7_send 413 = .ok (.aload_n 0, 1) := by decide +kernel
theorem dX7_send_414 : decode cX7_send 414 = .ok (.getfield 154, 3) := by decide +kernel
theorem dX7_send_417 : decode cX7_send 417 = .ok (.bipush 8, 2) := by decide +kernel
theorem dX7_send_419 : decode cX7_send 419 = .ok (.if_icmp .ne 9, 3) := by decide +kernel
theorem dX7_send_422 : decode cX7_send 422 = .ok (.iload 9, 2) := by decide +kernel
theorem dX7_send_424 : decode cX7_send 424 = .ok (.bipush 8, 2) := by decide +kernel
theorem dX7_send_426 : decode cX7_send 426 = .ok (.iadd, 1) := by decide +kernel
theorem dX7_send_427 : decode cX7_send 427 = .ok (.ireturn, 1) := by decide +kernel
theorem dX7_send_428 : decode cX7_send 428 = .ok (.aload_n 0, 1) := by decide +kernel
theorem dX7_send_429 : decode cX7_send 429 = .ok (.getfield 47, 3) := by decide +kernel
theorem dX7_send_432 : decode cX7_send 432 = .ok (.aload_n 0, 1) := by decide +kernel
theorem dX7_send_433 : decode cX7_send 433 = .ok (.getfield 154, 3) := by decide +kernel
theorem dX7_send_436 : decode cX7_send 436 = .ok (.aload_n 0, 1) := by decide +kernel
theorem dX7_send_437 : decode cX7_send 437 = .ok (.getfield 121, 3) := by decide +kernel
theorem dX7_send_440 : decode cX7_send 440 = .ok (.iastore, 1) := by decide +kernel
theorem dX7_send_441 : decode cX7_send 441 = .ok (.iconst 0, 1) := by decide +kernel
theorem dX7_send_442 : decode cX7_send 442 = .ok (.istore 10, 2) := by decide +kernel
theorem dX7_send_444 : decode cX7_send 444 = .ok (.iload 10, 2) := by decide +kernel
theorem dX7_send_446 : decode cX7_send 446 = .ok (.aload_n 0, 1) := by decide +kernel
theorem dX7_send_447 : decode cX7_send 447 = .ok (.getfield 121, 3) := by decide +kernel
theorem dX7_send_450 : decode cX7_send 450 = .ok (.if_icmp .ge 31, 3) := by decide +kernel
theorem dX7_send_453 : decode cX7_send 453 = .ok (.aload_n 0, 1) := by decide +kernel
theorem dX7_send_454 : decode cX7_send 454 = .ok (.getfield 50, 3) := by decide +kernel
theorem dX7_send_457 : decode cX7_send 457 = .ok (.bipush 20, 2) := by decide +kernel
theorem dX7_send_459 : decode cX7_send 459 = .ok (.aload_n 0, 1) := by decide +kernel
theorem dX7_send_460 : decode cX7_send 460 = .ok (.getfield 154, 3) := by decide +kernel
theorem dX7_send_463 : decode cX7_send 463 = .ok (.imul, 1) := by decide +kernel
theorem dX7_send_464 : decode cX7_send 464 = .ok (.iload 10, 2) := by decide +kernel
theorem dX7_send_466 : decode cX7_send 466 = .ok (.iadd, 1) := by decide +kernel
theorem dX7_send_467 : decode cX7_send 467 = .ok (.aload_n 0, 1) := by decide +kernel
theorem dX7_send_468 : decode cX7_send 468 = .ok (.getfield 89, 3) := by decide +kernel
theorem dX7_send_471 : decode cX7_send 471 = .ok (.iload 10, 2) := by decide +kernel
theorem dX7_send_473 : decode cX7_send 473 = .ok (.iaload, 1) := by decide +kernel
theorem dX7_send_474 : decode cX7_send 474 = .ok (.iastore, 1) := by decide +kernel
theorem dX7_send_475 : decode cX7_send 475 = .ok (.iinc 10 1, 3) := by decide +kernel
theorem dX7_send_478 : decode cX7_send 478 = .ok (.goto (-34), 3) := by decide +kernel
theorem dX7_send_481 : decode cX7_send 481 = .ok (.aload_n 0, 1) := by decide +kernel
theorem dX7_send_482 : decode cX7_send 482 = .ok (.dup, 1) := by decide +kernel
theorem dX7_send_483 : decode cX7_send 483 = .ok (.getfield 154, 3) := by decide +kernel
theorem dX7_send_486 : decode cX7_send 486 = .ok (.iconst 1, 1) := by decide +kernel
theorem dX7_send_487 : decode cX7_send 487 = .ok (.iadd, 1) := by decide +kernel
theorem dX7_send_488 : decode cX7_send 488 = .ok (.putfield 154, 3) := by decide +kernel
theorem dX7_send_491 : decode cX7_send 491 = .ok (.iload 9, 2) := by decide +kernel
theorem dX7_send_493 : decode cX7_send 493 = .ok (.ireturn, 1) := by decide +kernel
theorem dX7_noPacket_0 : decode cX7_noPacket 0 = .ok (.iload_n 1, 1) := by decide +kernel
theorem dX7_noPacket_1 : decode cX7_noPacket 1 = .ok (.ifCond .lt 11, 3) := by decide +kernel
theorem dX7_noPacket_4 : decode cX7_noPacket 4 = .ok (.iload_n 1, 1) := by decide +kernel
theorem dX7_noPacket_5 : decode cX7_noPacket 5 = .ok (.aload_n 0, 1) := by decide +kernel
theorem dX7_noPacket_6 : decode cX7_noPacket 6 = .ok (.getfield 154, 3) := by decide +kernel
theorem dX7_noPacket_9 : decode cX7_noPacket 9 = .ok (.if_icmp .lt 7, 3) := by decide +kernel
theorem dX7_noPacket_12 : decode cX7_noPacket 12 = .ok (.iconst 1, 1) := by decide +kernel
theorem dX7_noPacket_13 : decode cX7_noPacket 13 = .ok (.goto 4, 3) := by decide +kernel
theorem dX7_noPacket_16 : decode cX7_noPacket 16 = .ok (.iconst 0, 1) := by decide +kernel
theorem dX7_noPacket_17 : decode cX7_noPacket 17 = .ok (.ireturn, 1) := by decide +kernel
theorem dX7_noByte_0 : decode cX7_noByte 0 = .ok (.aload_n 0, 1) := by decide +kernel
theorem dX7_noByte_1 : decode cX7_noByte 1 = .ok (.iload_n 1, 1) := by decide +kernel
theorem dX7_noByte_2 : decode cX7_noByte 2 = .ok (.invokevirtual 157, 3) := by decide +kernel
theorem dX7_noByte_5 : decode cX7_noByte 5 = .ok (.ifCond .ne 17, 3) := by decide +kernel
theorem dX7_noByte_8 : decode cX7_noByte 8 = .ok (.iload_n 2, 1) := by decide +kernel
theorem dX7_noByte_9 : decode cX7_noByte 9 = .ok (.ifCond .lt 13, 3) := by decide +kernel
theorem dX7_noByte_12 : decode cX7_noByte 12 = .ok (.iload_n 2, 1) := by decide +kernel
theorem dX7_noByte_13 : decode cX7_noByte 13 = .ok (.aload_n 0, 1) := by decide +kernel
theorem dX7_noByte_14 : decode cX7_noByte 14 = .ok (.getfield 47, 3) := by decide +kernel
theorem dX7_noByte_17 : decode cX7_noByte 17 = .ok (.iload_n 1, 1) := by decide +kernel
theorem dX7_noByte_18 : decode cX7_noByte 18 = .ok (.iaload, 1) := by decide +kernel
theorem dX7_noByte_19 : decode cX7_noByte 19 = .ok (.if_icmp .lt 7, 3) := by decide +kernel
theorem dX7_noByte_22 : decode cX7_noByte 22 = .ok (.iconst 1, 1) := by decide +kernel
theorem dX7_noByte_23 : decode cX7_noByte 23 = .ok (.goto 4, 3) := by decide +kernel
theorem dX7_noByte_26 : decode cX7_noByte 26 = .ok (.iconst 0, 1) := by decide +kernel
theorem dX7_noByte_27 : decode cX7_noByte 27 = .ok (.ireturn, 1) := by decide +kernel
theorem dX7_line_0 : decode cX7_line 0 = .ok (.aload_n 0, 1) := by decide +kernel
theorem dX7_line_1 : decode cX7_line 1 = .ok (.iconst 0, 1) := by decide +kernel
theorem dX7_line_2 : decode cX7_line 2 = .ok (.putfield 92, 3) := by decide +kernel
theorem dX7_line_5 : decode cX7_line 5 = .ok (.aload_n 0, 1) := by decide +kernel
theorem dX7_line_6 : decode cX7_line 6 = .ok (.getfield 154, 3) := by decide +kernel
theorem dX7_line_9 : decode cX7_line 9 = .ok (.ireturn, 1) := by decide +kernel
theorem dX7_size_0 : decode cX7_size 0 = .ok (.aload_n 0, 1) := by decide +kernel
theorem dX7_size_1 : decode cX7_size 1 = .ok (.aload_n 0, 1) := by decide +kernel
theorem dX7_size_2 : decode cX7_size 2 = .ok (.iload_n 1, 1) := by decide +kernel
theorem dX7_size_3 : decode cX7_size 3 = .ok (.invokevirtual 157, 3) := by decide +kernel
theorem dX7_size_6 : decode cX7_size 6 = .ok (.ifCond .eq 7, 3) := by decide +kernel
theorem dX7_size_9 : decode cX7_size 9 = .ok (.iconst 1, 1) := by decide +kernel
theorem dX7_size_10 : decode cX7_size 10 = .ok (.goto 4, 3) := by decide +kernel
theorem dX7_size_13 : decode cX7_size 13 = .ok (.iconst 0, 1) := by decide +kernel
theorem dX7_size_14 : decode cX7_size 14 = .ok (.putfield 92, 3) := by decide +kernel
theorem dX7_size_17 : decode cX7_size 17 = .ok (.aload_n 0, 1) := by decide +kernel
theorem dX7_size_18 : decode cX7_size 18 = .ok (.getfield 92, 3) := by decide +kernel
theorem dX7_size_21 : decode cX7_size 21 = .ok (.ifCond .ne 12, 3) := by decide +kernel
theorem dX7_size_24 : decode cX7_size 24 = .ok (.aload_n 0, 1) := by decide +kernel
theorem dX7_size_25 : decode cX7_size 25 = .ok (.getfield 47, 3) := by decide +kernel
theorem dX7_size_28 : decode cX7_size 28 = .ok (.iload_n 1, 1) := by decide +kernel
theorem dX7_size_29 : decode cX7_size 29 = .ok (.iaload, 1) := by decide +kernel
theorem dX7_size_30 : decode cX7_size 30 = .ok (.goto 4, 3) := by decide +kernel
theorem dX7_size_33 : decode cX7_size 33 = .ok (.iconst 0, 1) := by decide +kernel
theorem dX7_size_34 : decode cX7_size 34 = .ok (.ireturn, 1) := by decide +kernel
theorem dX7_byteAt_0 : decode cX7_byteAt 0 = .ok (.aload_n 0, 1) := by decide +kernel
theorem dX7_byteAt_1 : decode cX7_byteAt 1 = .ok (.aload_n 0, 1) := by decide +kernel
theorem dX7_byteAt_2 : decode cX7_byteAt 2 = .ok (.iload_n 1, 1) := by decide +kernel
theorem dX7_byteAt_3 : decode cX7_byteAt 3 = .ok (.iload_n 2, 1) := by decide +kernel
theorem dX7_byteAt_4 : decode cX7_byteAt 4 = .ok (.invokevirtual 160, 3) := by decide +kernel
theorem dX7_byteAt_7 : decode cX7_byteAt 7 = .ok (.ifCond .eq 7, 3) := by decide +kernel
theorem dX7_byteAt_10 : decode cX7_byteAt 10 = .ok (.iconst 1, 1) := by decide +kernel
theorem dX7_byteAt_11 : decode cX7_byteAt 11 = .ok (.goto 4, 3) := by decide +kernel
theorem dX7_byteAt_14 : decode cX7_byteAt 14 = .ok (.iconst 0, 1) := by decide +kernel
theorem dX7_byteAt_15 : decode cX7_byteAt 15 = .ok (.putfield 92, 3) := by decide +kernel
theorem dX7_byteAt_18 : decode cX7_byteAt 18 = .ok (.aload_n 0, 1) := by decide +kernel
theorem dX7_byteAt_19 : decode cX7_byteAt 19 = .ok (.getfield 92, 3) := by decide +kernel
theorem dX7_byteAt_22 : decode cX7_byteAt 22 = .ok (.ifCond .ne 17, 3) := by decide +kernel
theorem dX7_byteAt_25 : decode cX7_byteAt 25 = .ok (.aload_n 0, 1) := by decide +kernel
theorem dX7_byteAt_26 : decode cX7_byteAt 26 = .ok (.getfield 50, 3) := by decide +kernel
theorem dX7_byteAt_29 : decode cX7_byteAt 29 = .ok (.bipush 20, 2) := by decide +kernel
theorem dX7_byteAt_31 : decode cX7_byteAt 31 = .ok (.iload_n 1, 1) := by decide +kernel
theorem dX7_byteAt_32 : decode cX7_byteAt 32 = .ok (.imul, 1) := by decide +kernel
theorem dX7_byteAt_33 : decode cX7_byteAt 33 = .ok (.iload_n 2, 1) := by decide +kernel
theorem dX7_byteAt_34 : decode cX7_byteAt 34 = .ok (.iadd, 1) := by decide +kernel
theorem dX7_byteAt_35 : decode cX7_byteAt 35 = .ok (.iaload, 1) := by decide +kernel
theorem dX7_byteAt_36 : decode cX7_byteAt 36 = .ok (.goto 4, 3) := by decide +kernel
theorem dX7_byteAt_39 : decode cX7_byteAt 39 = .ok (.iconst 0, 1) := by decide +kernel
theorem dX7_byteAt_40 : decode cX7_byteAt 40 = .ok (.ireturn, 1) := by decide +kernel
theorem dX7_spoil_0 : decode cX7_spoil 0 = .ok (.aload_n 0, 1) := by decide +kernel
theorem dX7_spoil_1 : decode cX7_spoil 1 = .ok (.aload_n 0, 1) := by decide +kernel
theorem dX7_spoil_2 : decode cX7_spoil 2 = .ok (.iload_n 1, 1) := by decide +kernel
theorem dX7_spoil_3 : decode cX7_spoil 3 = .ok (.iload_n 2, 1) := by decide +kernel
theorem dX7_spoil_4 : decode cX7_spoil 4 = .ok (.invokevirtual 160, 3) := by decide +kernel
theorem dX7_spoil_7 : decode cX7_spoil 7 = .ok (.ifCond .eq 7, 3) := by decide +kernel
theorem dX7_spoil_10 : decode cX7_spoil 10 = .ok (.iconst 1, 1) := by decide +kernel
theorem dX7_spoil_11 : decode cX7_spoil 11 = .ok (.goto 19, 3) := by decide +kernel
theorem dX7_spoil_14 : decode cX7_spoil 14 = .ok (.iload_n 3, 1) := by decide +kernel
theorem dX7_spoil_15 : decode cX7_spoil 15 = .ok (.ifCond .lt 10, 3) := by decide +kernel
theorem dX7_spoil_18 : decode cX7_spoil 18 = .ok (.iload_n 3, 1) := by decide +kernel
theorem dX7_spoil_19 : decode cX7_spoil 19 = .ok (.sipush 255, 3) := by decide +kernel
theorem dX7_spoil_22 : decode cX7_spoil 22 = .ok (.if_icmp .le 7, 3) := by decide +kernel
theorem dX7_spoil_25 : decode cX7_spoil 25 = .ok (.iconst 2, 1) := by decide +kernel
theorem dX7_spoil_26 : decode cX7_spoil 26 = .ok (.goto 4, 3) := by decide +kernel
theorem dX7_spoil_29 : decode cX7_spoil 29 = .ok (.iconst 0, 1) := by decide +kernel
theorem dX7_spoil_30 : decode cX7_spoil 30 = .ok (.putfield 92, 3) := by decide +kernel
theorem dX7_spoil_33 : decode cX7_spoil 33 = .ok (.aload_n 0, 1) := by decide +kernel
theorem dX7_spoil_34 : decode cX7_spoil 34 = .ok (.getfield 92, 3) := by decide +kernel
theorem dX7_spoil_37 : decode cX7_spoil 37 = .ok (.ifCond .ne 27, 3) := by decide +kernel
theorem dX7_spoil_40 : decode cX7_spoil 40 = .ok (.aload_n 0, 1) := by decide +kernel
theorem dX7_spoil_41 : decode cX7_spoil 41 = .ok (.getfield 50, 3) := by decide +kernel
theorem dX7_spoil_44 : decode cX7_spoil 44 = .ok (.bipush 20, 2) := by decide +kernel
theorem dX7_spoil_46 : decode cX7_spoil 46 = .ok (.iload_n 1, 1) := by decide +kernel
theorem dX7_spoil_47 : decode cX7_spoil 47 = .ok (.imul, 1) := by decide +kernel
theorem dX7_spoil_48 : decode cX7_spoil 48 = .ok (.iload_n 2, 1) := by decide +kernel
theorem dX7_spoil_49 : decode cX7_spoil 49 = .ok (.iadd, 1) := by decide +kernel
theorem dX7_spoil_50 : decode cX7_spoil 50 = .ok (.aload_n 0, 1) := by decide +kernel
theorem dX7_spoil_51 : decode cX7_spoil 51 = .ok (.getfield 50, 3) := by decide +kernel
theorem dX7_spoil_54 : decode cX7_spoil 54 = .ok (.bipush 20, 2) := by decide +kernel
theorem dX7_spoil_56 : decode cX7_spoil 56 = .ok (.iload_n 1, 1) := by decide +kernel
theorem dX7_spoil_57 : decode cX7_spoil 57 = .ok (.imul, 1) := by decide +kernel
theorem dX7_spoil_58 : decode cX7_spoil 58 = .ok (.iload_n 2, 1) := by decide +kernel
theorem dX7_spoil_59 : decode cX7_spoil 59 = .ok (.iadd, 1) := by decide +kernel
theorem dX7_spoil_60 : decode cX7_spoil 60 = .ok (.iaload, 1) := by decide +kernel
theorem dX7_spoil_61 : decode cX7_spoil 61 = .ok (.iload_n 3, 1) := by decide +kernel
theorem dX7_spoil_62 : decode cX7_spoil 62 = .ok (.ixor, 1) := by decide +kernel
theorem dX7_spoil_63 : decode cX7_spoil 63 = .ok (.iastore, 1) := by decide +kernel
theorem dX7_spoil_64 : decode cX7_spoil 64 = .ok (.return_, 1) := by decide +kernel
theorem dX7_off_0 : decode cX7_off 0 = .ok (.aload_n 0, 1) := by decide +kernel
theorem dX7_off_1 : decode cX7_off 1 = .ok (.dup, 1) := by decide +kernel
theorem dX7_off_2 : decode cX7_off 2 = .ok (.getfield 154, 3) := by decide +kernel
theorem dX7_off_5 : decode cX7_off 5 = .ok (.iconst 1, 1) := by decide +kernel
theorem dX7_off_6 : decode cX7_off 6 = .ok (.isub, 1) := by decide +kernel
theorem dX7_off_7 : decode cX7_off 7 = .ok (.putfield 154, 3) := by decide +kernel
theorem dX7_off_10 : decode cX7_off 10 = .ok (.iload_n 1, 1) := by decide +kernel
theorem dX7_off_11 : decode cX7_off 11 = .ok (.istore_n 2, 1) := by decide +kernel
theorem dX7_off_12 : decode cX7_off 12 = .ok (.iload_n 2, 1) := by decide +kernel
theorem dX7_off_13 : decode cX7_off 13 = .ok (.aload_n 0, 1) := by decide +kernel
theorem dX7_off_14 : decode cX7_off 14 = .ok (.getfield 154, 3) := by decide +kernel
theorem dX7_off_17 : decode cX7_off 17 = .ok (.if_icmp .ge 62, 3) := by decide +kernel
theorem dX7_off_20 : decode cX7_off 20 = .ok (.aload_n 0, 1) := by decide +kernel
theorem dX7_off_21 : decode cX7_off 21 = .ok (.getfield 47, 3) := by decide +kernel
theorem dX7_off_24 : decode cX7_off 24 = .ok (.iload_n 2, 1) := by decide +kernel
theorem dX7_off_25 : decode cX7_off 25 = .ok (.aload_n 0, 1) := by decide +kernel
theorem dX7_off_26 : decode cX7_off 26 = .ok (.getfield 47, 3) := by decide +kernel
theorem dX7_off_29 : decode cX7_off 29 = .ok (.iload_n 2, 1) := by decide +kernel
theorem dX7_off_30 : decode cX7_off 30 = .ok (.iconst 1, 1) := by decide +kernel
theorem dX7_off_31 : decode cX7_off 31 = .ok (.iadd, 1) := by decide +kernel
theorem dX7_off_32 : decode cX7_off 32 = .ok (.iaload, 1) := by decide +kernel
theorem dX7_off_33 : decode cX7_off 33 = .ok (.iastore, 1) := by decide +kernel
theorem dX7_off_34 : decode cX7_off 34 = .ok (.iconst 0, 1) := by decide +kernel
theorem dX7_off_35 : decode cX7_off 35 = .ok (.istore_n 3, 1) := by decide +kernel
theorem dX7_off_36 : decode cX7_off 36 = .ok (.iload_n 3, 1) := by decide +kernel
theorem dX7_off_37 : decode cX7_off 37 = .ok (.bipush 20, 2) := by decide +kernel
theorem dX7_off_39 : decode cX7_off 39 = .ok (.if_icmp .ge 34, 3) := by decide +kernel
theorem dX7_off_42 : decode cX7_off 42 = .ok (.aload_n 0, 1) := by decide +kernel
theorem dX7_off_43 : decode cX7_off 43 = .ok (.getfield 50, 3) := by decide +kernel
theorem dX7_off_46 : decode cX7_off 46 = .ok (.bipush 20, 2) := by decide +kernel
theorem dX7_off_48 : decode cX7_off 48 = .ok (.iload_n 2, 1) := by decide +kernel
theorem dX7_off_49 : decode cX7_off 49 = .ok (.imul, 1) := by decide +kernel
theorem dX7_off_50 : decode cX7_off 50 = .ok (.iload_n 3, 1) := by decide +kernel
theorem dX7_off_51 : decode cX7_off 51 = .ok (.iadd, 1) := by decide +kernel
theorem dX7_off_52 : decode cX7_off 52 = .ok (.aload_n 0, 1) := by decide +kernel
theorem dX7_off_53 : decode cX7_off 53 = .ok (.getfield 50, 3) := by decide +kernel
theorem dX7_off_56 : decode cX7_off 56 = .ok (.bipush 20, 2) := by decide +kernel
theorem dX7_off_58 : decode cX7_off 58 = .ok (.iload_n 2, 1) := by decide +kernel
theorem dX7_off_59 : decode cX7_off 59 = .ok (.imul, 1) := by decide +kernel
theorem dX7_off_60 : decode cX7_off 60 = .ok (.bipush 20, 2) := by decide +kernel
theorem dX7_off_62 : decode cX7_off 62 = .ok (.iadd, 1) := by decide +kernel
theorem dX7_off_63 : decode cX7_off 63 = .ok (.iload_n 3, 1) := by decide +kernel
theorem dX7_off_64 : decode cX7_off 64 = .ok (.iadd, 1) := by decide +kernel
theorem dX7_off_65 : decode cX7_off 65 = .ok (.iaload, 1) := by decide +kernel
theorem dX7_off_66 : decode cX7_off 66 = .ok (.iastore, 1) := by decide +kernel
theorem dX7_off_67 : decode cX7_off 67 = .ok (.iinc 3 1, 3) := by decide +kernel
theorem dX7_off_70 : decode cX7_off 70 = .ok (.goto (-34), 3) := by decide +kernel
theorem dX7_off_73 : decode cX7_off 73 = .ok (.iinc 2 1, 3) := by decide +kernel
theorem dX7_off_76 : decode cX7_off 76 = .ok (.goto (-64), 3) := by decide +kernel
theorem dX7_off_79 : decode cX7_off 79 = .ok (.return_, 1) := by decide +kernel
theorem dX7_lose_0 : decode cX7_lose 0 = .ok (.aload_n 0, 1) := by decide +kernel
theorem dX7_lose_1 : decode cX7_lose 1 = .ok (.aload_n 0, 1) := by decide +kernel
theorem dX7_lose_2 : decode cX7_lose 2 = .ok (.iload_n 1, 1) := by decide +kernel
theorem dX7_lose_3 : decode cX7_lose 3 = .ok (.invokevirtual 157, 3) := by decide +kernel
theorem dX7_lose_6 : decode cX7_lose 6 = .ok (.ifCond .eq 7, 3) := by decide +kernel
theorem dX7_lose_9 : decode cX7_lose 9 = .ok (.iconst 1, 1) := by decide +kernel
theorem dX7_lose_10 : decode cX7_lose 10 = .ok (.goto 4, 3) := by decide +kernel
theorem dX7_lose_13 : decode cX7_lose 13 = .ok (.iconst 0, 1) := by decide +kernel
theorem dX7_lose_14 : decode cX7_lose 14 = .ok (.putfield 92, 3) := by decide +kernel
theorem dX7_lose_17 : decode cX7_lose 17 = .ok (.aload_n 0, 1) := by decide +kernel
theorem dX7_lose_18 : decode cX7_lose 18 = .ok (.getfield 92, 3) := by decide +kernel
theorem dX7_lose_21 : decode cX7_lose 21 = .ok (.ifCond .ne 8, 3) := by decide +kernel
theorem dX7_lose_24 : decode cX7_lose 24 = .ok (.aload_n 0, 1) := by decide +kernel
theorem dX7_lose_25 : decode cX7_lose 25 = .ok (.iload_n 1, 1) := by decide +kernel
theorem dX7_lose_26 : decode cX7_lose 26 = .ok (.invokevirtual 164, 3) := by decide +kernel
theorem dX7_lose_29 : decode cX7_lose 29 = .ok (.return_, 1) := by decide +kernel
theorem dX7_kindOf_0 : decode cX7_kindOf 0 = .ok (.iload_n 1, 1) := by decide +kernel
theorem dX7_kindOf_1 : decode cX7_kindOf 1 = .ok (.sipush 128, 3) := by decide +kernel
theorem dX7_kindOf_4 : decode cX7_kindOf 4 = .ok (.if_icmp .ge 7, 3) := by decide +kernel
theorem dX7_kindOf_7 : decode cX7_kindOf 7 = .ok (.iconst 0, 1) := by decide +kernel
theorem dX7_kindOf_8 : decode cX7_kindOf 8 = .ok (.goto 48, 3) := by decide +kernel
theorem dX7_kindOf_11 : decode cX7_kindOf 11 = .ok (.iload_n 1, 1) := by decide +kernel
theorem dX7_kindOf_12 : decode cX7_kindOf 12 = .ok (.sipush 192, 3) := by decide +kernel
theorem dX7_kindOf_15 : decode cX7_kindOf 15 = .ok (.if_icmp .ge 7, 3) := by decide +kernel
theorem dX7_kindOf_18 : decode cX7_kindOf 18 = .ok (.iconst 1, 1) := by decide +kernel
theorem dX7_kindOf_19 : decode cX7_kindOf 19 = .ok (.goto 37, 3) := by decide +kernel
theorem dX7_kindOf_22 : decode cX7_kindOf 22 = .ok (.iload_n 1, 1) := by decide +kernel
theorem dX7_kindOf_23 : decode cX7_kindOf 23 = .ok (.sipush 224, 3) := by decide +kernel
theorem dX7_kindOf_26 : decode cX7_kindOf 26 = .ok (.if_icmp .ge 7, 3) := by decide +kernel
theorem dX7_kindOf_29 : decode cX7_kindOf 29 = .ok (.iconst 2, 1) := by decide +kernel
theorem dX7_kindOf_30 : decode cX7_kindOf 30 = .ok (.goto 26, 3) := by decide +kernel
theorem dX7_kindOf_33 : decode cX7_kindOf 33 = .ok (.iload_n 1, 1) := by decide +kernel
theorem dX7_kindOf_34 : decode cX7_kindOf 34 = .ok (.sipush 248, 3) := by decide +kernel
theorem dX7_kindOf_37 : decode cX7_kindOf 37 = .ok (.if_icmp .ne 7, 3) := by decide +kernel
theorem dX7_kindOf_40 : decode cX7_kindOf 40 = .ok (.iconst 3, 1) := by decide +kernel
theorem dX7_kindOf_41 : decode cX7_kindOf 41 = .ok (.goto 15, 3) := by decide +kernel
theorem dX7_kindOf_44 : decode cX7_kindOf 44 = .ok (.iload_n 1, 1) := by decide +kernel
theorem dX7_kindOf_45 : decode cX7_kindOf 45 = .ok (.sipush 253, 3) := by decide +kernel
theorem dX7_kindOf_48 : decode cX7_kindOf 48 = .ok (.if_icmp .ne 7, 3) := by decide +kernel
theorem dX7_kindOf_51 : decode cX7_kindOf 51 = .ok (.iconst 4, 1) := by decide +kernel
theorem dX7_kindOf_52 : decode cX7_kindOf 52 = .ok (.goto 4, 3) := by decide +kernel
theorem dX7_kindOf_55 : decode cX7_kindOf 55 = .ok (.iconst (-1), 1) := by decide +kernel
theorem dX7_kindOf_56 : decode cX7_kindOf 56 = .ok (.ireturn, 1) := by decide +kernel
theorem dX7_sizeOf_0 : decode cX7_sizeOf 0 = .ok (.iload_n 1, 1) := by decide +kernel
theorem dX7_sizeOf_1 : decode cX7_sizeOf 1 = .ok (.ifCond .ne 7, 3) := by decide +kernel
theorem dX7_sizeOf_4 : decode cX7_sizeOf 4 = .ok (.iconst 1, 1) := by decide +kernel
theorem dX7_sizeOf_5 : decode cX7_sizeOf 5 = .ok (.goto 33, 3) := by decide +kernel
theorem dX7_sizeOf_8 : decode cX7_sizeOf 8 = .ok (.iload_n 1, 1) := by decide +kernel
theorem dX7_sizeOf_9 : decode cX7_sizeOf 9 = .ok (.iconst 1, 1) := by decide +kernel
theorem dX7_sizeOf_10 : decode cX7_sizeOf 10 = .ok (.if_icmp .ne 7, 3) := by decide +kernel
theorem dX7_sizeOf_13 : decode cX7_sizeOf 13 = .ok (.iconst 2, 1) := by decide +kernel
theorem dX7_sizeOf_14 : decode cX7_sizeOf 14 = .ok (.goto 24, 3) := by decide +kernel
theorem dX7_sizeOf_17 : decode cX7_sizeOf 17 = .ok (.iload_n 1, 1) := by decide +kernel
theorem dX7_sizeOf_18 : decode cX7_sizeOf 18 = .ok (.iconst 2, 1) := by decide +kernel
theorem dX7_sizeOf_19 : decode cX7_sizeOf 19 = .ok (.if_icmp .ne 7, 3) := by decide +kernel
theorem dX7_sizeOf_22 : decode cX7_sizeOf 22 = .ok (.iconst 3, 1) := by decide +kernel
theorem dX7_sizeOf_23 : decode cX7_sizeOf 23 = .ok (.goto 15, 3) := by decide +kernel
theorem dX7_sizeOf_26 : decode cX7_sizeOf 26 = .ok (.iload_n 1, 1) := by decide +kernel
theorem dX7_sizeOf_27 : decode cX7_sizeOf 27 = .ok (.iconst 3, 1) := by decide +kernel
theorem dX7_sizeOf_28 : decode cX7_sizeOf 28 = .ok (.if_icmp .ne 8, 3) := by decide +kernel
theorem dX7_sizeOf_31 : decode cX7_sizeOf 31 = .ok (.bipush 11, 2) := by decide +kernel
theorem dX7_sizeOf_33 : decode cX7_sizeOf 33 = .ok (.goto 5, 3) := by decide +kernel
theorem dX7_sizeOf_36 : decode cX7_sizeOf 36 = .ok (.bipush 16, 2) := by decide +kernel
theorem dX7_sizeOf_38 : decode cX7_sizeOf 38 = .ok (.ireturn, 1) := by decide +kernel
theorem dX7_broken_0 : decode cX7_broken 0 = .ok (.iload_n 1, 1) := by decide +kernel
theorem dX7_broken_1 : decode cX7_broken 1 = .ok (.ifCond .lt 17, 3) := by decide +kernel
theorem dX7_broken_4 : decode cX7_broken 4 = .ok (.aload_n 0, 1) := by decide +kernel
theorem dX7_broken_5 : decode cX7_broken 5 = .ok (.getfield 121, 3) := by decide +kernel
theorem dX7_broken_8 : decode cX7_broken 8 = .ok (.iload_n 2, 1) := by decide +kernel
theorem dX7_broken_9 : decode cX7_broken 9 = .ok (.isub, 1) := by decide +kernel
theorem dX7_broken_10 : decode cX7_broken 10 = .ok (.aload_n 0, 1) := by decide +kernel
theorem dX7_broken_11 : decode cX7_broken 11 = .ok (.iload_n 1, 1) := by decide +kernel
theorem dX7_broken_12 : decode cX7_broken 12 = .ok (.invokevirtual 167, 3) := by decide +kernel
theorem dX7_broken_15 : decode cX7_broken 15 = .ok (.if_icmp .eq 5, 3) := by decide +kernel
theorem dX7_broken_18 : decode cX7_broken 18 = .ok (.iconst 1, 1) := by decide +kernel
theorem dX7_broken_19 : decode cX7_broken 19 = .ok (.ireturn, 1) := by decide +kernel
theorem dX7_broken_20 : decode cX7_broken 20 = .ok (.iload_n 1, 1) := by decide +kernel
theorem dX7_broken_21 : decode cX7_broken 21 = .ok (.iconst 2, 1) := by decide +kernel
theorem dX7_broken_22 : decode cX7_broken 22 = .ok (.if_icmp .ne 22, 3) := by decide +kernel
theorem dX7_broken_25 : decode cX7_broken 25 = .ok (.aload_n 0, 1) := by decide +kernel
theorem dX7_broken_26 : decode cX7_broken 26 = .ok (.getfield 89, 3) := by decide +kernel
theorem dX7_broken_29 : decode cX7_broken 29 = .ok (.iload_n 2, 1) := by decide +kernel
theorem dX7_broken_30 : decode cX7_broken 30 = .ok (.iconst 1, 1) := by decide +kernel
theorem dX7_broken_31 : decode cX7_broken 31 = .ok (.iadd, 1) := by decide +kernel
theorem dX7_broken_32 : decode cX7_broken 32 = .ok (.iaload, 1) := by decide +kernel
theorem dX7_broken_33 : decode cX7_broken 33 = .ok (.iconst 3, 1) := by decide +kernel
theorem dX7_broken_34 : decode cX7_broken 34 = .ok (.iand, 1) := by decide +kernel
theorem dX7_broken_35 : decode cX7_broken 35 = .ok (.ifCond .eq 7, 3) := by decide +kernel
theorem dX7_broken_38 : decode cX7_broken 38 = .ok (.iconst 1, 1) := by decide +kernel
theorem dX7_broken_39 : decode cX7_broken 39 = .ok (.goto 4, 3) := by decide +kernel
theorem dX7_broken_42 : decode cX7_broken 42 = .ok (.iconst 0, 1) := by decide +kernel
theorem dX7_broken_43 : decode cX7_broken 43 = .ok (.ireturn, 1) := by decide +kernel
theorem dX7_broken_44 : decode cX7_broken 44 = .ok (.iload_n 1, 1) := by decide +kernel
theorem dX7_broken_45 : decode cX7_broken 45 = .ok (.iconst 3, 1) := by decide +kernel
theorem dX7_broken_46 : decode cX7_broken 46 = .ok (.if_icmp .ne 23, 3) := by decide +kernel
theorem dX7_broken_49 : decode cX7_broken 49 = .ok (.aload_n 0, 1) := by decide +kernel
theorem dX7_broken_50 : decode cX7_broken 50 = .ok (.getfield 89, 3) := by decide +kernel
theorem dX7_broken_53 : decode cX7_broken 53 = .ok (.iload_n 2, 1) := by decide +kernel
theorem dX7_broken_54 : decode cX7_broken 54 = .ok (.iconst 1, 1) := by decide +kernel
theorem dX7_broken_55 : decode cX7_broken 55 = .ok (.iadd, 1) := by decide +kernel
theorem dX7_broken_56 : decode cX7_broken 56 = .ok (.iaload, 1) := by decide +kernel
theorem dX7_broken_57 : decode cX7_broken 57 = .ok (.bipush 127, 2) := by decide +kernel
theorem dX7_broken_59 : decode cX7_broken 59 = .ok (.iand, 1) := by decide +kernel
theorem dX7_broken_60 : decode cX7_broken 60 = .ok (.ifCond .eq 7, 3) := by decide +kernel
theorem dX7_broken_63 : decode cX7_broken 63 = .ok (.iconst 1, 1) := by decide +kernel
theorem dX7_broken_64 : decode cX7_broken 64 = .ok (.goto 4, 3) := by decide +kernel
theorem dX7_broken_67 : decode cX7_broken 67 = .ok (.iconst 0, 1) := by decide +kernel
theorem dX7_broken_68 : decode cX7_broken 68 = .ok (.ireturn, 1) := by decide +kernel
theorem dX7_broken_69 : decode cX7_broken 69 = .ok (.iload_n 1, 1) := by decide +kernel
theorem dX7_broken_70 : decode cX7_broken 70 = .ok (.iconst 4, 1) := by decide +kernel
theorem dX7_broken_71 : decode cX7_broken 71 = .ok (.if_icmp .ne 35, 3) := by decide +kernel
theorem dX7_broken_74 : decode cX7_broken 74 = .ok (.aload_n 0, 1) := by decide +kernel
theorem dX7_broken_75 : decode cX7_broken 75 = .ok (.getfield 89, 3) := by decide +kernel
theorem dX7_broken_78 : decode cX7_broken 78 = .ok (.iload_n 2, 1) := by decide +kernel
theorem dX7_broken_79 : decode cX7_broken 79 = .ok (.bipush 6, 2) := by decide +kernel
theorem dX7_broken_81 : decode cX7_broken 81 = .ok (.iadd, 1) := by decide +kernel
theorem dX7_broken_82 : decode cX7_broken 82 = .ok (.iaload, 1) := by decide +kernel
theorem dX7_broken_83 : decode cX7_broken 83 = .ok (.bipush 127, 2) := by decide +kernel
theorem dX7_broken_85 : decode cX7_broken 85 = .ok (.iand, 1) := by decide +kernel
theorem dX7_broken_86 : decode cX7_broken 86 = .ok (.ifCond .ne 16, 3) := by decide +kernel
theorem dX7_broken_89 : decode cX7_broken 89 = .ok (.aload_n 0, 1) := by decide +kernel
theorem dX7_broken_90 : decode cX7_broken 90 = .ok (.getfield 89, 3) := by decide +kernel
theorem dX7_broken_93 : decode cX7_broken 93 = .ok (.iload_n 2, 1) := by decide +kernel
theorem dX7_broken_94 : decode cX7_broken 94 = .ok (.iconst 3, 1) := by decide +kernel
theorem dX7_broken_95 : decode cX7_broken 95 = .ok (.iadd, 1) := by decide +kernel
theorem dX7_broken_96 : decode cX7_broken 96 = .ok (.iaload, 1) := by decide +kernel
theorem dX7_broken_97 : decode cX7_broken 97 = .ok (.bipush 127, 2) := by decide +kernel
theorem dX7_broken_99 : decode cX7_broken 99 = .ok (.if_icmp .le 7, 3) := by decide +kernel
theorem dX7_broken_102 : decode cX7_broken 102 = .ok (.iconst 1, 1) := by decide +kernel
theorem dX7_broken_103 : decode cX7_broken 103 = .ok (.goto 4, 3) := by decide +kernel
theorem dX7_broken_106 : decode cX7_broken 106 = .ok (.iconst 0, 1) := by decide +kernel
theorem dX7_broken_107 : decode cX7_broken 107 = .ok (.ireturn, 1) := by decide +kernel
