theorem dX7_two_0 : decode cX7_two 0 = .ok (.sipush 256, 3) := by decide +kernel
theorem dX7_two_3 : decode cX7_two 3 = .ok (.aload_n 0, 1) := by decide +kernel
theorem dX7_two_4 : decode cX7_two 4 = .ok (.getfield 89, 3) := by decide +kernel
theorem dX7_two_7 : decode cX7_two 7 = .ok (.iload_n 1, 1) := by decide +kernel
theorem dX7_two_8 : decode cX7_two 8 = .ok (.iaload, 1) := by decide +kernel
theorem dX7_two_9 : decode cX7_two 9 = .ok (.imul, 1) := by decide +kernel
theorem dX7_two_10 : decode cX7_two 10 = .ok (.aload_n 0, 1) := by decide +kernel
theorem dX7_two_11 : decode cX7_two 11 = .ok (.getfield 89, 3) := by decide +kernel
theorem dX7_two_14 : decode cX7_two 14 = .ok (.iload_n 1, 1) := by decide +kernel
theorem dX7_two_15 : decode cX7_two 15 = .ok (.iconst 1, 1) := by decide +kernel
theorem dX7_two_16 : decode cX7_two 16 = .ok (.iadd, 1) := by decide +kernel
theorem dX7_two_17 : decode cX7_two 17 = .ok (.iaload, 1) := by decide +kernel
theorem dX7_two_18 : decode cX7_two 18 = .ok (.iadd, 1) := by decide +kernel
theorem dX7_two_19 : decode cX7_two 19 = .ok (.ireturn, 1) := by decide +kernel
theorem dX7_near_0 : decode cX7_near 0 = .ok (.iload_n 1, 1) := by decide +kernel
theorem dX7_near_1 : decode cX7_near 1 = .ok (.aload_n 0, 1) := by decide +kernel
theorem dX7_near_2 : decode cX7_near 2 = .ok (.iload_n 2, 1) := by decide +kernel
theorem dX7_near_3 : decode cX7_near 3 = .ok (.invokevirtual 114, 3) := by decide +kernel
theorem dX7_near_6 : decode cX7_near 6 = .ok (.isub, 1) := by decide +kernel
theorem dX7_near_7 : decode cX7_near 7 = .ok (.istore 4, 2) := by decide +kernel
theorem dX7_near_9 : decode cX7_near 9 = .ok (.iload_n 3, 1) := by decide +kernel
theorem dX7_near_10 : decode cX7_near 10 = .ok (.iload 4, 2) := by decide +kernel
theorem dX7_near_12 : decode cX7_near 12 = .ok (.isub, 1) := by decide +kernel
theorem dX7_near_13 : decode cX7_near 13 = .ok (.iconst 1, 1) := by decide +kernel
theorem dX7_near_14 : decode cX7_near 14 = .ok (.aload_n 0, 1) := by decide +kernel
theorem dX7_near_15 : decode cX7_near 15 = .ok (.iload_n 2, 1) := by decide +kernel
theorem dX7_near_16 : decode cX7_near 16 = .ok (.invokevirtual 118, 3) := by decide +kernel
theorem dX7_near_19 : decode cX7_near 19 = .ok (.ishl, 1) := by decide +kernel
theorem dX7_near_20 : decode cX7_near 20 = .ok (.iconst 1, 1) := by decide +kernel
theorem dX7_near_21 : decode cX7_near 21 = .ok (.isub, 1) := by decide +kernel
theorem dX7_near_22 : decode cX7_near 22 = .ok (.iand, 1) := by decide +kernel
theorem dX7_near_23 : decode cX7_near 23 = .ok (.istore 5, 2) := by decide +kernel
theorem dX7_near_25 : decode cX7_near 25 = .ok (.iload 4, 2) := by decide +kernel
theorem dX7_near_27 : decode cX7_near 27 = .ok (.iload 5, 2) := by decide +kernel
theorem dX7_near_29 : decode cX7_near 29 = .ok (.iadd, 1) := by decide +kernel
theorem dX7_near_30 : decode cX7_near 30 = .ok (.ldc 96, 2) := by decide +kernel
theorem dX7_near_32 : decode cX7_near 32 = .ok (.iand, 1) := by decide +kernel
theorem dX7_near_33 : decode cX7_near 33 = .ok (.ireturn, 1) := by decide +kernel
theorem dX7_fits_0 : decode cX7_fits 0 = .ok (.aload_n 0, 1) := by decide +kernel
theorem dX7_fits_1 : decode cX7_fits 1 = .ok (.aload_n 0, 1) := by decide +kernel
theorem dX7_fits_2 : decode cX7_fits 2 = .ok (.getfield 56, 3) := by decide +kernel
theorem dX7_fits_5 : decode cX7_fits 5 = .ok (.iload_n 1, 1) := by decide +kernel
theorem dX7_fits_6 : decode cX7_fits 6 = .ok (.iaload, 1) := by decide +kernel
theorem dX7_fits_7 : decode cX7_fits 7 = .ok (.aload_n 0, 1) := by decide +kernel
theorem dX7_fits_8 : decode cX7_fits 8 = .ok (.getfield 59, 3) := by decide +kernel
theorem dX7_fits_11 : decode cX7_fits 11 = .ok (.iload_n 1, 1) := by decide +kernel
theorem dX7_fits_12 : decode cX7_fits 12 = .ok (.iaload, 1) := by decide +kernel
theorem dX7_fits_13 : decode cX7_fits 13 = .ok (.iload 4, 2) := by decide +kernel
theorem dX7_fits_15 : decode cX7_fits 15 = .ok (.iload_n 3, 1) := by decide +kernel
theorem dX7_fits_16 : decode cX7_fits 16 = .ok (.aload_n 0, 1) := by decide +kernel
theorem dX7_fits_17 : decode cX7_fits 17 = .ok (.getfield 65, 3) := by decide +kernel
theorem dX7_fits_20 : decode cX7_fits 20 = .ok (.iload_n 1, 1) := by decide +kernel
theorem dX7_fits_21 : decode cX7_fits 21 = .ok (.iaload, 1) := by decide +kernel
theorem dX7_fits_22 : decode cX7_fits 22 = .ok (.iload_n 3, 1) := by decide +kernel
theorem dX7_fits_23 : decode cX7_fits 23 = .ok (.aload_n 0, 1) := by decide +kernel
theorem dX7_fits_24 : decode cX7_fits 24 = .ok (.getfield 62, 3) := by decide +kernel
theorem dX7_fits_27 : decode cX7_fits 27 = .ok (.iload_n 1, 1) := by decide +kernel
theorem dX7_fits_28 : decode cX7_fits 28 = .ok (.iaload, 1) := by decide +kernel
theorem dX7_fits_29 : decode cX7_fits 29 = .ok (.imul, 1) := by decide +kernel
theorem dX7_fits_30 : decode cX7_fits 30 = .ok (.iadd, 1) := by decide +kernel
theorem dX7_fits_31 : decode cX7_fits 31 = .ok (.iload_n 3, 1) := by decide +kernel
theorem dX7_fits_32 : decode cX7_fits 32 = .ok (.aload_n 0, 1) := by decide +kernel
theorem dX7_fits_33 : decode cX7_fits 33 = .ok (.getfield 68, 3) := by decide +kernel
theorem dX7_fits_36 : decode cX7_fits 36 = .ok (.iload_n 1, 1) := by decide +kernel
theorem dX7_fits_37 : decode cX7_fits 37 = .ok (.iaload, 1) := by decide +kernel
theorem dX7_fits_38 : decode cX7_fits 38 = .ok (.iadd, 1) := by decide +kernel
theorem dX7_fits_39 : decode cX7_fits 39 = .ok (.ldc 96, 2) := by decide +kernel
theorem dX7_fits_41 : decode cX7_fits 41 = .ok (.iand, 1) := by decide +kernel
theorem dX7_fits_42 : decode cX7_fits 42 = .ok (.invokevirtual 142, 3) := by decide +kernel
theorem dX7_fits_45 : decode cX7_fits 45 = .ok (.aload_n 0, 1) := by decide +kernel
theorem dX7_fits_46 : decode cX7_fits 46 = .ok (.iload_n 2, 1) := by decide +kernel
theorem dX7_fits_47 : decode cX7_fits 47 = .ok (.ifCond .ne 7, 3) := by decide +kernel
theorem dX7_fits_50 : decode cX7_fits 50 = .ok (.iconst 3, 1) := by decide +kernel
theorem dX7_fits_51 : decode cX7_fits 51 = .ok (.goto 15, 3) := by decide +kernel
theorem dX7_fits_54 : decode cX7_fits 54 = .ok (.iload_n 2, 1) := by decide +kernel
theorem dX7_fits_55 : decode cX7_fits 55 = .ok (.iconst 1, 1) := by decide +kernel
theorem dX7_fits_56 : decode cX7_fits 56 = .ok (.if_icmp .ne 8, 3) := by decide +kernel
theorem dX7_fits_59 : decode cX7_fits 59 = .ok (.bipush 7, 2) := by decide +kernel
theorem dX7_fits_61 : decode cX7_fits 61 = .ok (.goto 5, 3) := by decide +kernel
theorem dX7_fits_64 : decode cX7_fits 64 = .ok (.bipush 8, 2) := by decide +kernel
theorem dX7_fits_66 : decode cX7_fits 66 = .ok (.bipush 11, 2) := by decide +kernel
theorem dX7_fits_68 : decode cX7_fits 68 = .ok (.invokevirtual 128, 3) := by decide +kernel
theorem dX7_fits_71 : decode cX7_fits 71 = .ok (.iload 5, 2) := by decide +kernel
theorem dX7_fits_73 : decode cX7_fits 73 = .ok (.if_icmp .ne 7, 3) := by decide +kernel
theorem dX7_fits_76 : decode cX7_fits 76 = .ok (.iconst 1, 1) := by decide +kernel
theorem dX7_fits_77 : decode cX7_fits 77 = .ok (.goto 4, 3) := by decide +kernel
theorem dX7_fits_80 : decode cX7_fits 80 = .ok (.iconst 0, 1) := by decide +kernel
theorem dX7_fits_81 : decode cX7_fits 81 = .ok (.ireturn, 1) := by decide +kernel
theorem dX7_keep_0 : decode cX7_keep 0 = .ok (.aload_n 0, 1) := by decide +kernel
theorem dX7_keep_1 : decode cX7_keep 1 = .ok (.getfield 74, 3) := by decide +kernel
theorem dX7_keep_4 : decode cX7_keep 4 = .ok (.iload_n 1, 1) := by decide +kernel
theorem dX7_keep_5 : decode cX7_keep 5 = .ok (.aload_n 0, 1) := by decide +kernel
theorem dX7_keep_6 : decode cX7_keep 6 = .ok (.getfield 53, 3) := by decide +kernel
theorem dX7_keep_9 : decode cX7_keep 9 = .ok (.iload_n 1, 1) := by decide +kernel
theorem dX7_keep_10 : decode cX7_keep 10 = .ok (.iaload, 1) := by decide +kernel
theorem dX7_keep_11 : decode cX7_keep 11 = .ok (.ifCond .ne 7, 3) := by decide +kernel
theorem dX7_keep_14 : decode cX7_keep 14 = .ok (.iload_n 2, 1) := by decide +kernel
theorem dX7_keep_15 : decode cX7_keep 15 = .ok (.goto 9, 3) := by decide +kernel
theorem dX7_keep_18 : decode cX7_keep 18 = .ok (.aload_n 0, 1) := by decide +kernel
theorem dX7_keep_19 : decode cX7_keep 19 = .ok (.getfield 71, 3) := by decide +kernel
theorem dX7_keep_22 : decode cX7_keep 22 = .ok (.iload_n 1, 1) := by decide +kernel
theorem dX7_keep_23 : decode cX7_keep 23 = .ok (.iaload, 1) := by decide +kernel
theorem dX7_keep_24 : decode cX7_keep 24 = .ok (.iastore, 1) := by decide +kernel
theorem dX7_keep_25 : decode cX7_keep 25 = .ok (.aload_n 0, 1) := by decide +kernel
theorem dX7_keep_26 : decode cX7_keep 26 = .ok (.getfield 71, 3) := by decide +kernel
theorem dX7_keep_29 : decode cX7_keep 29 = .ok (.iload_n 1, 1) := by decide +kernel
theorem dX7_keep_30 : decode cX7_keep 30 = .ok (.iload_n 2, 1) := by decide +kernel
theorem dX7_keep_31 : decode cX7_keep 31 = .ok (.iastore, 1) := by decide +kernel
theorem dX7_keep_32 : decode cX7_keep 32 = .ok (.aload_n 0, 1) := by decide +kernel
theorem dX7_keep_33 : decode cX7_keep 33 = .ok (.getfield 77, 3) := by decide +kernel
theorem dX7_keep_36 : decode cX7_keep 36 = .ok (.iload_n 1, 1) := by decide +kernel
theorem dX7_keep_37 : decode cX7_keep 37 = .ok (.iconst 0, 1) := by decide +kernel
theorem dX7_keep_38 : decode cX7_keep 38 = .ok (.iastore, 1) := by decide +kernel
theorem dX7_keep_39 : decode cX7_keep 39 = .ok (.aload_n 0, 1) := by decide +kernel
theorem dX7_keep_40 : decode cX7_keep 40 = .ok (.getfield 83, 3) := by decide +kernel
theorem dX7_keep_43 : decode cX7_keep 43 = .ok (.bipush 6, 2) := by decide +kernel
theorem dX7_keep_45 : decode cX7_keep 45 = .ok (.dup2, 1) := by decide +kernel
theorem dX7_keep_46 : decode cX7_keep 46 = .ok (.iaload, 1) := by decide +kernel
theorem dX7_keep_47 : decode cX7_keep 47 = .ok (.iconst 1, 1) := by decide +kernel
theorem dX7_keep_48 : decode cX7_keep 48 = .ok (.iadd, 1) := by decide +kernel
theorem dX7_keep_49 : decode cX7_keep 49 = .ok (.iastore, 1) := by decide +kernel
theorem dX7_keep_50 : decode cX7_keep 50 = .ok (.iconst 0, 1) := by decide +kernel
theorem dX7_keep_51 : decode cX7_keep 51 = .ok (.istore_n 3, 1) := by decide +kernel
theorem dX7_keep_52 : decode cX7_keep 52 = .ok (.iload_n 3, 1) := by decide +kernel
theorem dX7_keep_53 : decode cX7_keep 53 = .ok (.bipush 11, 2) := by decide +kernel
theorem dX7_keep_55 : decode cX7_keep 55 = .ok (.if_icmp .ge 21, 3) := by decide +kernel
theorem dX7_keep_58 : decode cX7_keep 58 = .ok (.aload_n 0, 1) := by decide +kernel
theorem dX7_keep_59 : decode cX7_keep 59 = .ok (.getfield 80, 3) := by decide +kernel
theorem dX7_keep_62 : decode cX7_keep 62 = .ok (.iload_n 3, 1) := by decide +kernel
theorem dX7_keep_63 : decode cX7_keep 63 = .ok (.aload_n 0, 1) := by decide +kernel
theorem dX7_keep_64 : decode cX7_keep 64 = .ok (.getfield 86, 3) := by decide +kernel
theorem dX7_keep_67 : decode cX7_keep 67 = .ok (.iload_n 3, 1) := by decide +kernel
theorem dX7_keep_68 : decode cX7_keep 68 = .ok (.iaload, 1) := by decide +kernel
theorem dX7_keep_69 : decode cX7_keep 69 = .ok (.iastore, 1) := by decide +kernel
theorem dX7_keep_70 : decode cX7_keep 70 = .ok (.iinc 3 1, 3) := by decide +kernel
theorem dX7_keep_73 : decode cX7_keep 73 = .ok (.goto (-21), 3) := by decide +kernel
theorem dX7_keep_76 : decode cX7_keep 76 = .ok (.return_, 1) := by decide +kernel
theorem dX7_fail_0 : decode cX7_fail 0 = .ok (.aload_n 0, 1) := by decide +kernel
theorem dX7_fail_1 : decode cX7_fail 1 = .ok (.getfield 83, 3) := by decide +kernel
theorem dX7_fail_4 : decode cX7_fail 4 = .ok (.bipush 10, 2) := by decide +kernel
theorem dX7_fail_6 : decode cX7_fail 6 = .ok (.dup2, 1) := by decide +kernel
theorem dX7_fail_7 : decode cX7_fail 7 = .ok (.iaload, 1) := by decide +kernel
theorem dX7_fail_8 : decode cX7_fail 8 = .ok (.iconst 1, 1) := by decide +kernel
theorem dX7_fail_9 : decode cX7_fail 9 = .ok (.iadd, 1) := by decide +kernel
theorem dX7_fail_10 : decode cX7_fail 10 = .ok (.iastore, 1) := by decide +kernel
theorem dX7_fail_11 : decode cX7_fail 11 = .ok (.aload_n 0, 1) := by decide +kernel
theorem dX7_fail_12 : decode cX7_fail 12 = .ok (.getfield 77, 3) := by decide +kernel
theorem dX7_fail_15 : decode cX7_fail 15 = .ok (.iload_n 1, 1) := by decide +kernel
theorem dX7_fail_16 : decode cX7_fail 16 = .ok (.dup2, 1) := by decide +kernel
theorem dX7_fail_17 : decode cX7_fail 17 = .ok (.iaload, 1) := by decide +kernel
theorem dX7_fail_18 : decode cX7_fail 18 = .ok (.iconst 1, 1) := by decide +kernel
theorem dX7_fail_19 : decode cX7_fail 19 = .ok (.iadd, 1) := by decide +kernel
theorem dX7_fail_20 : decode cX7_fail 20 = .ok (.iastore, 1) := by decide +kernel
theorem dX7_fail_21 : decode cX7_fail 21 = .ok (.aload_n 0, 1) := by decide +kernel
theorem dX7_fail_22 : decode cX7_fail 22 = .ok (.getfield 77, 3) := by decide +kernel
theorem dX7_fail_25 : decode cX7_fail 25 = .ok (.iload_n 1, 1) := by decide +kernel
theorem dX7_fail_26 : decode cX7_fail 26 = .ok (.iaload, 1) := by decide +kernel
theorem dX7_fail_27 : decode cX7_fail 27 = .ok (.iconst 3, 1) := by decide +kernel
theorem dX7_fail_28 : decode cX7_fail 28 = .ok (.if_icmp .ne 37, 3) := by decide +kernel
theorem dX7_fail_31 : decode cX7_fail 31 = .ok (.aload_n 0, 1) := by decide +kernel
theorem dX7_fail_32 : decode cX7_fail 32 = .ok (.getfield 77, 3) := by decide +kernel
theorem dX7_fail_35 : decode cX7_fail 35 = .ok (.iload_n 1, 1) := by decide +kernel
theorem dX7_fail_36 : decode cX7_fail 36 = .ok (.iconst 0, 1) := by decide +kernel
theorem dX7_fail_37 : decode cX7_fail 37 = .ok (.iastore, 1) := by decide +kernel
theorem dX7_fail_38 : decode cX7_fail 38 = .ok (.aload_n 0, 1) := by decide +kernel
theorem dX7_fail_39 : decode cX7_fail 39 = .ok (.getfield 53, 3) := by decide +kernel
theorem dX7_fail_42 : decode cX7_fail 42 = .ok (.iload_n 1, 1) := by decide +kernel
theorem dX7_fail_43 : decode cX7_fail 43 = .ok (.aload_n 0, 1) := by decide +kernel
theorem dX7_fail_44 : decode cX7_fail 44 = .ok (.getfield 53, 3) := by decide +kernel
theorem dX7_fail_47 : decode cX7_fail 47 = .ok (.iload_n 1, 1) := by decide +kernel
theorem dX7_fail_48 : decode cX7_fail 48 = .ok (.iaload, 1) := by decide +kernel
theorem dX7_fail_49 : decode cX7_fail 49 = .ok (.ifCond .le 14, 3) := by decide +kernel
theorem dX7_fail_52 : decode cX7_fail 52 = .ok (.aload_n 0, 1) := by decide +kernel
theorem dX7_fail_53 : decode cX7_fail 53 = .ok (.getfield 53, 3) := by decide +kernel
theorem dX7_fail_56 : decode cX7_fail 56 = .ok (.iload_n 1, 1) := by decide +kernel
theorem dX7_fail_57 : decode cX7_fail 57 = .ok (.iaload, 1) := by decide +kernel
theorem dX7_fail_58 : decode cX7_fail 58 = .ok (.iconst 1, 1) := by decide +kernel
theorem dX7_fail_59 : decode cX7_fail 59 = .ok (.isub, 1) := by decide +kernel
theorem dX7_fail_60 : decode cX7_fail 60 = .ok (.goto 4, 3) := by decide +kernel
theorem dX7_fail_63 : decode cX7_fail 63 = .ok (.iconst 0, 1) := by decide +kernel
theorem dX7_fail_64 : decode cX7_fail 64 = .ok (.iastore, 1) := by decide +kernel
theorem dX7_fail_65 : decode cX7_fail 65 = .ok (.return_, 1) := by decide +kernel
theorem dX7_comeSmall_0 : decode cX7_comeSmall 0 = .ok (.iload_n 2, 1) := by decide +kernel
theorem dX7_comeSmall_1 : decode cX7_comeSmall 1 = .ok (.ifCond .ne 15, 3) := by decide +kernel
theorem dX7_comeSmall_4 : decode cX7_comeSmall 4 = .ok (.aload_n 0, 1) := by decide +kernel
theorem dX7_comeSmall_5 : decode cX7_comeSmall 5 = .ok (.getfield 89, 3) := by decide +kernel
theorem dX7_comeSmall_8 : decode cX7_comeSmall 8 = .ok (.iload_n 3, 1) := by decide +kernel
theorem dX7_comeSmall_9 : decode cX7_comeSmall 9 = .ok (.iaload, 1) := by decide +kernel
theorem dX7_comeSmall_10 : decode cX7_comeSmall 10 = .ok (.bipush 8, 2) := by decide +kernel
theorem dX7_comeSmall_12 : decode cX7_comeSmall 12 = .ok (.idiv, 1) := by decide +kernel
theorem dX7_comeSmall_13 : decode cX7_comeSmall 13 = .ok (.goto 44, 3) := by decide +kernel
theorem dX7_comeSmall_16 : decode cX7_comeSmall 16 = .ok (.iload_n 2, 1) := by decide +kernel
theorem dX7_comeSmall_17 : decode cX7_comeSmall 17 = .ok (.iconst 1, 1) := by decide +kernel
theorem dX7_comeSmall_18 : decode cX7_comeSmall 18 = .ok (.if_icmp .ne 15, 3) := by decide +kernel
theorem dX7_comeSmall_21 : decode cX7_comeSmall 21 = .ok (.aload_n 0, 1) := by decide +kernel
theorem dX7_comeSmall_22 : decode cX7_comeSmall 22 = .ok (.getfield 89, 3) := by decide +kernel
theorem dX7_comeSmall_25 : decode cX7_comeSmall 25 = .ok (.iload_n 3, 1) := by decide +kernel
theorem dX7_comeSmall_26 : decode cX7_comeSmall 26 = .ok (.iaload, 1) := by decide +kernel
theorem dX7_comeSmall_27 : decode cX7_comeSmall 27 = .ok (.bipush 64, 2) := by decide +kernel
theorem dX7_comeSmall_29 : decode cX7_comeSmall 29 = .ok (.irem, 1) := by decide +kernel
theorem dX7_comeSmall_30 : decode cX7_comeSmall 30 = .ok (.goto 27, 3) := by decide +kernel
theorem dX7_comeSmall_33 : decode cX7_comeSmall 33 = .ok (.aload_n 0, 1) := by decide +kernel
theorem dX7_comeSmall_34 : decode cX7_comeSmall 34 = .ok (.getfield 89, 3) := by decide +kernel
theorem dX7_comeSmall_37 : decode cX7_comeSmall 37 = .ok (.iload_n 3, 1) := by decide +kernel
theorem dX7_comeSmall_38 : decode cX7_comeSmall 38 = .ok (.iaload, 1) := by decide +kernel
theorem dX7_comeSmall_39 : decode cX7_comeSmall 39 = .ok (.bipush 32, 2) := by decide +kernel
theorem dX7_comeSmall_41 : decode cX7_comeSmall 41 = .ok (.irem, 1) := by decide +kernel
theorem dX7_comeSmall_42 : decode cX7_comeSmall 42 = .ok (.bipush 32, 2) := by decide +kernel
theorem dX7_comeSmall_44 : decode cX7_comeSmall 44 = .ok (.imul, 1) := by decide +kernel
theorem dX7_comeSmall_45 : decode cX7_comeSmall 45 = .ok (.aload_n 0, 1) := by decide +kernel
theorem dX7_comeSmall_46 : decode cX7_comeSmall 46 = .ok (.getfield 89, 3) := by decide +kernel
theorem dX7_comeSmall_49 : decode cX7_comeSmall 49 = .ok (.iload_n 3, 1) := by decide +kernel
theorem dX7_comeSmall_50 : decode cX7_comeSmall 50 = .ok (.iconst 1, 1) := by decide +kernel
theorem dX7_comeSmall_51 : decode cX7_comeSmall 51 = .ok (.iadd, 1) := by decide +kernel
theorem dX7_comeSmall_52 : decode cX7_comeSmall 52 = .ok (.iaload, 1) := by decide +kernel
theorem dX7_comeSmall_53 : decode cX7_comeSmall 53 = .ok (.bipush 8, 2) := by decide +kernel
theorem dX7_comeSmall_55 : decode cX7_comeSmall 55 = .ok (.idiv, 1) := by decide +kernel
theorem dX7_comeSmall_56 : decode cX7_comeSmall 56 = .ok (.iadd, 1) := by decide +kernel
theorem dX7_comeSmall_57 : decode cX7_comeSmall 57 = .ok (.istore 4, 2) := by decide +kernel
theorem dX7_comeSmall_59 : decode cX7_comeSmall 59 = .ok (.iload_n 2, 1) := by decide +kernel
theorem dX7_comeSmall_60 : decode cX7_comeSmall 60 = .ok (.iconst 1, 1) := by decide +kernel
theorem dX7_comeSmall_61 : decode cX7_comeSmall 61 = .ok (.if_icmp .ne 24, 3) := by decide +kernel
theorem dX7_comeSmall_64 : decode cX7_comeSmall 64 = .ok (.aload_n 0, 1) := by decide +kernel
theorem dX7_comeSmall_65 : decode cX7_comeSmall 65 = .ok (.getfield 89, 3) := by decide +kernel
theorem dX7_comeSmall_68 : decode cX7_comeSmall 68 = .ok (.iload_n 3, 1) := by decide +kernel
theorem dX7_comeSmall_69 : decode cX7_comeSmall 69 = .ok (.iconst 1, 1) := by decide +kernel
theorem dX7_comeSmall_70 : decode cX7_comeSmall 70 = .ok (.iadd, 1) := by decide +kernel
theorem dX7_comeSmall_71 : decode cX7_comeSmall 71 = .ok (.iaload, 1) := by decide +kernel
theorem dX7_comeSmall_72 : decode cX7_comeSmall 72 = .ok (.bipush 127, 2) := by decide +kernel
theorem dX7_comeSmall_74 : decode cX7_comeSmall 74 = .ok (.if_icmp .le 7, 3) := by decide +kernel
theorem dX7_comeSmall_77 : decode cX7_comeSmall 77 = .ok (.iconst 1, 1) := by decide +kernel
theorem dX7_comeSmall_78 : decode cX7_comeSmall 78 = .ok (.goto 30, 3) := by decide +kernel
theorem dX7_comeSmall_81 : decode cX7_comeSmall 81 = .ok (.iconst 0, 1) := by decide +kernel
theorem dX7_comeSmall_82 : decode cX7_comeSmall 82 = .ok (.goto 26, 3) := by decide +kernel
theorem dX7_comeSmall_85 : decode cX7_comeSmall 85 = .ok (.iload_n 2, 1) := by decide +kernel
theorem dX7_comeSmall_86 : decode cX7_comeSmall 86 = .ok (.iconst 2, 1) := by decide +kernel
theorem dX7_comeSmall_87 : decode cX7_comeSmall 87 = .ok (.if_icmp .ne 20, 3) := by decide +kernel
theorem dX7_comeSmall_90 : decode cX7_comeSmall 90 = .ok (.aload_n 0, 1) := by decide +kernel
theorem dX7_comeSmall_91 : decode cX7_comeSmall 91 = .ok (.getfield 89, 3) := by decide +kernel
theorem dX7_comeSmall_94 : decode cX7_comeSmall 94 = .ok (.iload_n 3, 1) := by decide +kernel
theorem dX7_comeSmall_95 : decode cX7_comeSmall 95 = .ok (.iconst 1, 1) := by decide +kernel
theorem dX7_comeSmall_96 : decode cX7_comeSmall 96 = .ok (.iadd, 1) := by decide +kernel
theorem dX7_comeSmall_97 : decode cX7_comeSmall 97 = .ok (.iaload, 1) := by decide +kernel
theorem dX7_comeSmall_98 : decode cX7_comeSmall 98 = .ok (.iconst 4, 1) := by decide +kernel
theorem dX7_comeSmall_99 : decode cX7_comeSmall 99 = .ok (.iand, 1) := by decide +kernel
theorem dX7_comeSmall_100 : decode cX7_comeSmall 100 = .ok (.ifCond .eq 7, 3) := by decide +kernel
theorem dX7_comeSmall_103 : decode cX7_comeSmall 103 = .ok (.iconst 1, 1) := by decide +kernel
theorem dX7_comeSmall_104 : decode cX7_comeSmall 104 = .ok (.goto 4, 3) := by decide +kernel
theorem dX7_comeSmall_107 : decode cX7_comeSmall 107 = .ok (.iconst 0, 1) := by decide +kernel
theorem dX7_comeSmall_108 : decode cX7_comeSmall 108 = .ok (.istore 5, 2) := by decide +kernel
theorem dX7_comeSmall_110 : decode cX7_comeSmall 110 = .ok (.iload_n 2, 1) := by decide +kernel
theorem dX7_comeSmall_111 : decode cX7_comeSmall 111 = .ok (.ifCond .ne 15, 3) := by decide +kernel
theorem dX7_comeSmall_114 : decode cX7_comeSmall 114 = .ok (.aload_n 0, 1) := by decide +kernel
theorem dX7_comeSmall_115 : decode cX7_comeSmall 115 = .ok (.getfield 89, 3) := by decide +kernel
theorem dX7_comeSmall_118 : decode cX7_comeSmall 118 = .ok (.iload_n 3, 1) := by decide +kernel
theorem dX7_comeSmall_119 : decode cX7_comeSmall 119 = .ok (.iaload, 1) := by decide +kernel
theorem dX7_comeSmall_120 : decode cX7_comeSmall 120 = .ok (.bipush 8, 2) := by decide +kernel
theorem dX7_comeSmall_122 : decode cX7_comeSmall 122 = .ok (.irem, 1) := by decide +kernel
theorem dX7_comeSmall_123 : decode cX7_comeSmall 123 = .ok (.goto 31, 3) := by decide +kernel
theorem dX7_comeSmall_126 : decode cX7_comeSmall 126 = .ok (.iload_n 2, 1) := by decide +kernel
theorem dX7_comeSmall_127 : decode cX7_comeSmall 127 = .ok (.iconst 1, 1) := by decide +kernel
theorem dX7_comeSmall_128 : decode cX7_comeSmall 128 = .ok (.if_icmp .ne 18, 3) := by decide +kernel
theorem dX7_comeSmall_131 : decode cX7_comeSmall 131 = .ok (.aload_n 0, 1) := by decide +kernel
theorem dX7_comeSmall_132 : decode cX7_comeSmall 132 = .ok (.getfield 89, 3) := by decide +kernel
theorem dX7_comeSmall_135 : decode cX7_comeSmall 135 = .ok (.iload_n 3, 1) := by decide +kernel
theorem dX7_comeSmall_136 : decode cX7_comeSmall 136 = .ok (.iconst 1, 1) := by decide +kernel
theorem dX7_comeSmall_137 : decode cX7_comeSmall 137 = .ok (.iadd, 1) := by decide +kernel
theorem dX7_comeSmall_138 : decode cX7_comeSmall 138 = .ok (.iaload, 1) := by decide +kernel
theorem dX7_comeSmall_139 : decode cX7_comeSmall 139 = .ok (.sipush 128, 3) := by decide +kernel
theorem dX7_comeSmall_142 : decode cX7_comeSmall 142 = .ok (.irem, 1) := by decide +kernel
theorem dX7_comeSmall_143 : decode cX7_comeSmall 143 = .ok (.goto 11, 3) := by decide +kernel
theorem dX7_comeSmall_146 : decode cX7_comeSmall 146 = .ok (.aload_n 0, 1) := by decide +kernel
theorem dX7_comeSmall_147 : decode cX7_comeSmall 147 = .ok (.getfield 89, 3) := by decide +kernel
theorem dX7_comeSmall_150 : decode cX7_comeSmall 150 = .ok (.iload_n 3, 1) := by decide +kernel
theorem dX7_comeSmall_151 : decode cX7_comeSmall 151 = .ok (.iconst 2, 1) := by decide +kernel
theorem dX7_comeSmall_152 : decode cX7_comeSmall 152 = .ok (.iadd, 1) := by decide +kernel
theorem dX7_comeSmall_153 : decode cX7_comeSmall 153 = .ok (.iaload, 1) := by decide +kernel
theorem dX7_comeSmall_154 : decode cX7_comeSmall 154 = .ok (.istore 6, 2) := by decide +kernel
theorem dX7_comeSmall_156 : decode cX7_comeSmall 156 = .ok (.aload_n 0, 1) := by decide +kernel
theorem dX7_comeSmall_157 : decode cX7_comeSmall 157 = .ok (.aload_n 0, 1) := by decide +kernel
theorem dX7_comeSmall_158 : decode cX7_comeSmall 158 = .ok (.getfield 71, 3) := by decide +kernel
theorem dX7_comeSmall_161 : decode cX7_comeSmall 161 = .ok (.iload_n 1, 1) := by decide +kernel
theorem dX7_comeSmall_162 : decode cX7_comeSmall 162 = .ok (.iaload, 1) := by decide +kernel
theorem dX7_comeSmall_163 : decode cX7_comeSmall 163 = .ok (.iload_n 2, 1) := by decide +kernel
theorem dX7_comeSmall_164 : decode cX7_comeSmall 164 = .ok (.iload 4, 2) := by decide +kernel
theorem dX7_comeSmall_166 : decode cX7_comeSmall 166 = .ok (.invokevirtual 170, 3) := by decide +kernel
theorem dX7_comeSmall_169 : decode cX7_comeSmall 169 = .ok (.istore 7, 2) := by decide +kernel
theorem dX7_comeSmall_171 : decode cX7_comeSmall 171 = .ok (.iconst 1, 1) := by decide +kernel
theorem dX7_comeSmall_172 : decode cX7_comeSmall 172 = .ok (.istore 8, 2) := by decide +kernel
theorem dX7_comeSmall_174 : decode cX7_comeSmall 174 = .ok (.aload_n 0, 1) := by decide +kernel
theorem dX7_comeSmall_175 : decode cX7_comeSmall 175 = .ok (.iload_n 1, 1) := by decide +kernel
theorem dX7_comeSmall_176 : decode cX7_comeSmall 176 = .ok (.iload_n 2, 1) := by decide +kernel
theorem dX7_comeSmall_177 : decode cX7_comeSmall 177 = .ok (.iload 7, 2) := by decide +kernel
theorem dX7_comeSmall_179 : decode cX7_comeSmall 179 = .ok (.iload 5, 2) := by decide +kernel
theorem dX7_comeSmall_181 : decode cX7_comeSmall 181 = .ok (.iload 6, 2) := by decide +kernel
theorem dX7_comeSmall_183 : decode cX7_comeSmall 183 = .ok (.invokevirtual 174, 3) := by decide +kernel
theorem dX7_comeSmall_186 : decode cX7_comeSmall 186 = .ok (.istore 9, 2) := by decide +kernel
theorem dX7_comeSmall_188 : decode cX7_comeSmall 188 = .ok (.iload 9, 2) := by decide +kernel
theorem dX7_comeSmall_190 : decode cX7_comeSmall 190 = .ok (.ifCond .ne 35, 3) := by decide +kernel
theorem dX7_comeSmall_193 : decode cX7_comeSmall 193 = .ok (.iconst 2, 1) := by decide +kernel
theorem dX7_comeSmall_194 : decode cX7_comeSmall 194 = .ok (.istore 8, 2) := by decide +kernel
theorem dX7_comeSmall_196 : decode cX7_comeSmall 196 = .ok (.iload 7, 2) := by decide +kernel
theorem dX7_comeSmall_198 : decode cX7_comeSmall 198 = .ok (.iconst 1, 1) := by decide +kernel
theorem dX7_comeSmall_199 : decode cX7_comeSmall 199 = .ok (.aload_n 0, 1) := by decide +kernel
theorem dX7_comeSmall_200 : decode cX7_comeSmall 200 = .ok (.iload_n 2, 1) := by decide +kernel
theorem dX7_comeSmall_201 : decode cX7_comeSmall 201 = .ok (.invokevirtual 118, 3) := by decide +kernel
theorem dX7_comeSmall_204 : decode cX7_comeSmall 204 = .ok (.ishl, 1) := by decide +kernel
theorem dX7_comeSmall_205 : decode cX7_comeSmall 205 = .ok (.iadd, 1) := by decide +kernel
theorem dX7_comeSmall_206 : decode cX7_comeSmall 206 = .ok (.ldc 96, 2) := by decide +kernel
theorem dX7_comeSmall_208 : decode cX7_comeSmall 208 = .ok (.iand, 1) := by decide +kernel
theorem dX7_comeSmall_209 : decode cX7_comeSmall 209 = .ok (.istore 7, 2) := by decide +kernel
theorem dX7_comeSmall_211 : decode cX7_comeSmall 211 = .ok (.aload_n 0, 1) := by decide +kernel
theorem dX7_comeSmall_212 : decode cX7_comeSmall 212 = .ok (.iload_n 1, 1) := by decide +kernel
theorem dX7_comeSmall_213 : decode cX7_comeSmall 213 = .ok (.iload_n 2, 1) := by decide +kernel
theorem dX7_comeSmall_214 : decode cX7_comeSmall 214 = .ok (.iload 7, 2) := by decide +kernel
theorem dX7_comeSmall_216 : decode cX7_comeSmall 216 = .ok (.iload 5, 2) := by decide +kernel
theorem dX7_comeSmall_218 : decode cX7_comeSmall 218 = .ok (.iload 6, 2) := by decide +kernel
theorem dX7_comeSmall_220 : decode cX7_comeSmall 220 = .ok (.invokevirtual 174, 3) := by decide +kernel
theorem dX7_comeSmall_223 : decode cX7_comeSmall 223 = .ok (.istore 9, 2) := by decide +kernel
theorem dX7_comeSmall_225 : decode cX7_comeSmall 225 = .ok (.iload 9, 2) := by decide +kernel
theorem dX7_comeSmall_227 : decode cX7_comeSmall 227 = .ok (.ifCond .ne 32, 3) := by decide +kernel
theorem dX7_comeSmall_230 : decode cX7_comeSmall 230 = .ok (.aload_n 0, 1) := by decide +kernel
theorem dX7_comeSmall_231 : decode cX7_comeSmall 231 = .ok (.aload_n 0, 1) := by decide +kernel
theorem dX7_comeSmall_232 : decode cX7_comeSmall 232 = .ok (.getfield 74, 3) := by decide +kernel
theorem dX7_comeSmall_235 : decode cX7_comeSmall 235 = .ok (.iload_n 1, 1) := by decide +kernel
theorem dX7_comeSmall_236 : decode cX7_comeSmall 236 = .ok (.iaload, 1) := by decide +kernel
theorem dX7_comeSmall_237 : decode cX7_comeSmall 237 = .ok (.iload_n 2, 1) := by decide +kernel
theorem dX7_comeSmall_238 : decode cX7_comeSmall 238 = .ok (.iload 4, 2) := by decide +kernel
theorem dX7_comeSmall_240 : decode cX7_comeSmall 240 = .ok (.invokevirtual 170, 3) := by decide +kernel
theorem dX7_comeSmall_243 : decode cX7_comeSmall 243 = .ok (.istore 7, 2) := by decide +kernel
theorem dX7_comeSmall_245 : decode cX7_comeSmall 245 = .ok (.aload_n 0, 1) := by decide +kernel
theorem dX7_comeSmall_246 : decode cX7_comeSmall 246 = .ok (.iload_n 1, 1) := by decide +kernel
theorem dX7_comeSmall_247 : decode cX7_comeSmall 247 = .ok (.iload_n 2, 1) := by decide +kernel
theorem dX7_comeSmall_248 : decode cX7_comeSmall 248 = .ok (.iload 7, 2) := by decide +kernel
theorem dX7_comeSmall_250 : decode cX7_comeSmall 250 = .ok (.iload 5, 2) := by decide +kernel
theorem dX7_comeSmall_252 : decode cX7_comeSmall 252 = .ok (.iload 6, 2) := by decide +kernel
theorem dX7_comeSmall_254 : decode cX7_comeSmall 254 = .ok (.invokevirtual 174, 3) := by decide +kernel
theorem dX7_comeSmall_257 : decode cX7_comeSmall 257 = .ok (.istore 9, 2) := by decide +kernel
theorem dX7_comeSmall_259 : decode cX7_comeSmall 259 = .ok (.iload 9, 2) := by decide +kernel
theorem dX7_comeSmall_261 : decode cX7_comeSmall 261 = .ok (.ifCond .eq 31, 3) := by decide +kernel
theorem dX7_comeSmall_264 : decode cX7_comeSmall 264 = .ok (.aload_n 0, 1) := by decide +kernel
theorem dX7_comeSmall_265 : decode cX7_comeSmall 265 = .ok (.iload_n 1, 1) := by decide +kernel
theorem dX7_comeSmall_266 : decode cX7_comeSmall 266 = .ok (.iload 7, 2) := by decide +kernel
theorem dX7_comeSmall_268 : decode cX7_comeSmall 268 = .ok (.invokevirtual 178, 3) := by decide +kernel
theorem dX7_comeSmall_271 : decode cX7_comeSmall 271 = .ok (.aload_n 0, 1) := by decide +kernel
theorem dX7_comeSmall_272 : decode cX7_comeSmall 272 = .ok (.getfield 83, 3) := by decide +kernel
theorem dX7_comeSmall_275 : decode cX7_comeSmall 275 = .ok (.bipush 7, 2) := by decide +kernel
theorem dX7_comeSmall_277 : decode cX7_comeSmall 277 = .ok (.dup2, 1) := by decide +kernel
theorem dX7_comeSmall_278 : decode cX7_comeSmall 278 = .ok (.iaload, 1) := by decide +kernel
theorem dX7_comeSmall_279 : decode cX7_comeSmall 279 = .ok (.iload 8, 2) := by decide +kernel
theorem dX7_comeSmall_281 : decode cX7_comeSmall 281 = .ok (.iconst 2, 1) := by decide +kernel
theorem dX7_comeSmall_282 : decode cX7_comeSmall 282 = .ok (.if_icmp .ne 7, 3) := by decide +kernel
theorem dX7_comeSmall_285 : decode cX7_comeSmall 285 = .ok (.iconst 1, 1) := by decide +kernel
theorem dX7_comeSmall_286 : decode cX7_comeSmall 286 = .ok (.goto 4, 3) := by decide +kernel
theorem dX7_comeSmall_289 : decode cX7_comeSmall 289 = .ok (.iconst 0, 1) := by decide +kernel
theorem dX7_comeSmall_290 : decode cX7_comeSmall 290 = .ok (.iadd, 1) := by decide +kernel
theorem dX7_comeSmall_291 : decode cX7_comeSmall 291 = .ok (.iastore, 1) := by decide +kernel
theorem dX7_comeSmall_292 : decode cX7_comeSmall 292 = .ok (.iload 9, 2) := by decide +kernel
theorem dX7_comeSmall_294 : decode cX7_comeSmall 294 = .ok (.ifCond .eq 8, 3) := by decide +kernel
theorem dX7_comeSmall_297 : decode cX7_comeSmall 297 = .ok (.iload 8, 2) := by decide +kernel
theorem dX7_comeSmall_299 : decode cX7_comeSmall 299 = .ok (.goto 4, 3) := by decide +kernel
theorem dX7_comeSmall_302 : decode cX7_comeSmall 302 = .ok (.iconst 0, 1) := by decide +kernel
theorem dX7_comeSmall_303 : decode cX7_comeSmall 303 = .ok (.ireturn, 1) := by decide +kernel
theorem dX7_comeWhole_0 : decode cX7_comeWhole 0 = .ok (.iload_n 2, 1) := by decide +kernel
theorem dX7_comeWhole_1 : decode cX7_comeWhole 1 = .ok (.iconst 4, 1) := by decide +kernel
theorem dX7_comeWhole_2 : decode cX7_comeWhole 2 = .ok (.if_icmp .ne 13, 3) := by decide +kernel
theorem dX7_comeWhole_5 : decode cX7_comeWhole 5 = .ok (.aload_n 0, 1) := by decide +kernel
theorem dX7_comeWhole_6 : decode cX7_comeWhole 6 = .ok (.iload_n 3, 1) := by decide +kernel
theorem dX7_comeWhole_7 : decode cX7_comeWhole 7 = .ok (.iconst 1, 1) := by decide +kernel
theorem dX7_comeWhole_8 : decode cX7_comeWhole 8 = .ok (.iadd, 1) := by decide +kernel
theorem dX7_comeWhole_9 : decode cX7_comeWhole 9 = .ok (.invokevirtual 181, 3) := by decide +kernel
theorem dX7_comeWhole_12 : decode cX7_comeWhole 12 = .ok (.goto 9, 3) := by decide +kernel
theorem dX7_comeWhole_15 : decode cX7_comeWhole 15 = .ok (.aload_n 0, 1) := by decide +kernel
theorem dX7_comeWhole_16 : decode cX7_comeWhole 16 = .ok (.getfield 56, 3) := by decide +kernel
theorem dX7_comeWhole_19 : decode cX7_comeWhole 19 = .ok (.iload_n 1, 1) := by decide +kernel
theorem dX7_comeWhole_20 : decode cX7_comeWhole 20 = .ok (.iaload, 1) := by decide +kernel
theorem dX7_comeWhole_21 : decode cX7_comeWhole 21 = .ok (.istore 4, 2) := by decide +kernel
theorem dX7_comeWhole_23 : decode cX7_comeWhole 23 = .ok (.iload_n 2, 1) := by decide +kernel
theorem dX7_comeWhole_24 : decode cX7_comeWhole 24 = .ok (.iconst 4, 1) := by decide +kernel
theorem dX7_comeWhole_25 : decode cX7_comeWhole 25 = .ok (.if_icmp .ne 14, 3) := by decide +kernel
theorem dX7_comeWhole_28 : decode cX7_comeWhole 28 = .ok (.aload_n 0, 1) := by decide +kernel
theorem dX7_comeWhole_29 : decode cX7_comeWhole 29 = .ok (.getfield 89, 3) := by decide +kernel
theorem dX7_comeWhole_32 : decode cX7_comeWhole 32 = .ok (.iload_n 3, 1) := by decide +kernel
theorem dX7_comeWhole_33 : decode cX7_comeWhole 33 = .ok (.iconst 3, 1) := by decide +kernel
theorem dX7_comeWhole_34 : decode cX7_comeWhole 34 = .ok (.iadd, 1) := by decide +kernel
theorem dX7_comeWhole_35 : decode cX7_comeWhole 35 = .ok (.iaload, 1) := by decide +kernel
theorem dX7_comeWhole_36 : decode cX7_comeWhole 36 = .ok (.goto 9, 3) := by decide +kernel
theorem dX7_comeWhole_39 : decode cX7_comeWhole 39 = .ok (.aload_n 0, 1) := by decide +kernel
theorem dX7_comeWhole_40 : decode cX7_comeWhole 40 = .ok (.getfield 59, 3) := by decide +kernel
theorem dX7_comeWhole_43 : decode cX7_comeWhole 43 = .ok (.iload_n 1, 1) := by decide +kernel
theorem dX7_comeWhole_44 : decode cX7_comeWhole 44 = .ok (.iaload, 1) := by decide +kernel
theorem dX7_comeWhole_45 : decode cX7_comeWhole 45 = .ok (.istore 5, 2) := by decide +kernel
theorem dX7_comeWhole_47 : decode cX7_comeWhole 47 = .ok (.iload_n 2, 1) := by decide +kernel
theorem dX7_comeWhole_48 : decode cX7_comeWhole 48 = .ok (.iconst 4, 1) := by decide +kernel
theorem dX7_comeWhole_49 : decode cX7_comeWhole 49 = .ok (.if_icmp .ne 13, 3) := by decide +kernel
theorem dX7_comeWhole_52 : decode cX7_comeWhole 52 = .ok (.aload_n 0, 1) := by decide +kernel
theorem dX7_comeWhole_53 : decode cX7_comeWhole 53 = .ok (.iload_n 3, 1) := by decide +kernel
theorem dX7_comeWhole_54 : decode cX7_comeWhole 54 = .ok (.iconst 4, 1) := by decide +kernel
theorem dX7_comeWhole_55 : decode cX7_comeWhole 55 = .ok (.iadd, 1) := by decide +kernel
theorem dX7_comeWhole_56 : decode cX7_comeWhole 56 = .ok (.invokevirtual 181, 3) := by decide +kernel
theorem dX7_comeWhole_59 : decode cX7_comeWhole 59 = .ok (.goto 9, 3) := by decide +kernel
theorem dX7_comeWhole_62 : decode cX7_comeWhole 62 = .ok (.aload_n 0, 1) := by decide +kernel
theorem dX7_comeWhole_63 : decode cX7_comeWhole 63 = .ok (.getfield 62, 3) := by decide +kernel
theorem dX7_comeWhole_66 : decode cX7_comeWhole 66 = .ok (.iload_n 1, 1) := by decide +kernel
theorem dX7_comeWhole_67 : decode cX7_comeWhole 67 = .ok (.iaload, 1) := by decide +kernel
theorem dX7_comeWhole_68 : decode cX7_comeWhole 68 = .ok (.istore 6, 2) := by decide +kernel
theorem dX7_comeWhole_70 : decode cX7_comeWhole 70 = .ok (.iload_n 2, 1) := by decide +kernel
theorem dX7_comeWhole_71 : decode cX7_comeWhole 71 = .ok (.iconst 4, 1) := by decide +kernel
theorem dX7_comeWhole_72 : decode cX7_comeWhole 72 = .ok (.if_icmp .ne 10, 3) := by decide +kernel
theorem dX7_comeWhole_75 : decode cX7_comeWhole 75 = .ok (.iload_n 3, 1) := by decide +kernel
theorem dX7_comeWhole_76 : decode cX7_comeWhole 76 = .ok (.bipush 6, 2) := by decide +kernel
theorem dX7_comeWhole_78 : decode cX7_comeWhole 78 = .ok (.iadd, 1) := by decide +kernel
theorem dX7_comeWhole_79 : decode cX7_comeWhole 79 = .ok (.goto 6, 3) := by decide +kernel
theorem dX7_comeWhole_82 : decode cX7_comeWhole 82 = .ok (.iload_n 3, 1) := by decide +kernel
theorem dX7_comeWhole_83 : decode cX7_comeWhole 83 = .ok (.iconst 1, 1) := by decide +kernel
theorem dX7_comeWhole_84 : decode cX7_comeWhole 84 = .ok (.iadd, 1) := by decide +kernel
theorem dX7_comeWhole_85 : decode cX7_comeWhole 85 = .ok (.istore 7, 2) := by decide +kernel
theorem dX7_comeWhole_87 : decode cX7_comeWhole 87 = .ok (.aload_n 0, 1) := by decide +kernel
theorem dX7_comeWhole_88 : decode cX7_comeWhole 88 = .ok (.iload 7, 2) := by decide +kernel
theorem dX7_comeWhole_90 : decode cX7_comeWhole 90 = .ok (.iconst 1, 1) := by decide +kernel
theorem dX7_comeWhole_91 : decode cX7_comeWhole 91 = .ok (.iadd, 1) := by decide +kernel
theorem dX7_comeWhole_92 : decode cX7_comeWhole 92 = .ok (.invokevirtual 181, 3) := by decide +kernel
theorem dX7_comeWhole_95 : decode cX7_comeWhole 95 = .ok (.istore 8, 2) := by decide +kernel
theorem dX7_comeWhole_97 : decode cX7_comeWhole 97 = .ok (.aload_n 0, 1) := by decide +kernel
theorem dX7_comeWhole_98 : decode cX7_comeWhole 98 = .ok (.iload 7, 2) := by decide +kernel
theorem dX7_comeWhole_100 : decode cX7_comeWhole 100 = .ok (.iconst 3, 1) := by decide +kernel
theorem dX7_comeWhole_101 : decode cX7_comeWhole 101 = .ok (.iadd, 1) := by decide +kernel
theorem dX7_comeWhole_102 : decode cX7_comeWhole 102 = .ok (.invokevirtual 181, 3) := by decide +kernel
theorem dX7_comeWhole_105 : decode cX7_comeWhole 105 = .ok (.bipush 16, 2) := by decide +kernel
theorem dX7_comeWhole_107 : decode cX7_comeWhole 107 = .ok (.ishl, 1) := by decide +kernel
theorem dX7_comeWhole_108 : decode cX7_comeWhole 108 = .ok (.aload_n 0, 1) := by decide +kernel
theorem dX7_comeWhole_109 : decode cX7_comeWhole 109 = .ok (.iload 7, 2) := by decide +kernel
theorem dX7_comeWhole_111 : decode cX7_comeWhole 111 = .ok (.iconst 5, 1) := by decide +kernel
theorem dX7_comeWhole_112 : decode cX7_comeWhole 112 = .ok (.iadd, 1) := by decide +kernel
theorem dX7_comeWhole_113 : decode cX7_comeWhole 113 = .ok (.invokevirtual 181, 3) := by decide +kernel
theorem dX7_comeWhole_116 : decode cX7_comeWhole 116 = .ok (.ior, 1) := by decide +kernel
theorem dX7_comeWhole_117 : decode cX7_comeWhole 117 = .ok (.istore 9, 2) := by decide +kernel
theorem dX7_comeWhole_119 : decode cX7_comeWhole 119 = .ok (.aload_n 0, 1) := by decide +kernel
theorem dX7_comeWhole_120 : decode cX7_comeWhole 120 = .ok (.iload 7, 2) := by decide +kernel
theorem dX7_comeWhole_122 : decode cX7_comeWhole 122 = .ok (.bipush 7, 2) := by decide +kernel
theorem dX7_comeWhole_124 : decode cX7_comeWhole 124 = .ok (.iadd, 1) := by decide +kernel
theorem dX7_comeWhole_125 : decode cX7_comeWhole 125 = .ok (.invokevirtual 181, 3) := by decide +kernel
theorem dX7_comeWhole_128 : decode cX7_comeWhole 128 = .ok (.istore 10, 2) := by decide +kernel
theorem dX7_comeWhole_130 : decode cX7_comeWhole 130 = .ok (.aload_n 0, 1) := by decide +kernel
theorem dX7_comeWhole_131 : decode cX7_comeWhole 131 = .ok (.iload 4, 2) := by decide +kernel
theorem dX7_comeWhole_133 : decode cX7_comeWhole 133 = .ok (.iload 5, 2) := by decide +kernel
theorem dX7_comeWhole_135 : decode cX7_comeWhole 135 = .ok (.aload_n 0, 1) := by decide +kernel
theorem dX7_comeWhole_136 : decode cX7_comeWhole 136 = .ok (.getfield 89, 3) := by decide +kernel
theorem dX7_comeWhole_139 : decode cX7_comeWhole 139 = .ok (.iload 7, 2) := by decide +kernel
theorem dX7_comeWhole_141 : decode cX7_comeWhole 141 = .ok (.iaload, 1) := by decide +kernel
theorem dX7_comeWhole_142 : decode cX7_comeWhole 142 = .ok (.bipush 127, 2) := by decide +kernel
theorem dX7_comeWhole_144 : decode cX7_comeWhole 144 = .ok (.if_icmp .le 7, 3) := by decide +kernel
theorem dX7_comeWhole_147 : decode cX7_comeWhole 147 = .ok (.iconst 1, 1) := by decide +kernel
theorem dX7_comeWhole_148 : decode cX7_comeWhole 148 = .ok (.goto 4, 3) := by decide +kernel
theorem dX7_comeWhole_151 : decode cX7_comeWhole 151 = .ok (.iconst 0, 1) := by decide +kernel
theorem dX7_comeWhole_152 : decode cX7_comeWhole 152 = .ok (.iload 8, 2) := by decide +kernel
theorem dX7_comeWhole_154 : decode cX7_comeWhole 154 = .ok (.iload 9, 2) := by decide +kernel
theorem dX7_comeWhole_156 : decode cX7_comeWhole 156 = .ok (.iload 10, 2) := by decide +kernel
theorem dX7_comeWhole_158 : decode cX7_comeWhole 158 = .ok (.invokevirtual 142, 3) := by decide +kernel
theorem dX7_comeWhole_161 : decode cX7_comeWhole 161 = .ok (.aload_n 0, 1) := by decide +kernel
theorem dX7_comeWhole_162 : decode cX7_comeWhole 162 = .ok (.getfield 86, 3) := by decide +kernel
theorem dX7_comeWhole_165 : decode cX7_comeWhole 165 = .ok (.bipush 11, 2) := by decide +kernel
theorem dX7_comeWhole_167 : decode cX7_comeWhole 167 = .ok (.iload 6, 2) := by decide +kernel
theorem dX7_comeWhole_169 : decode cX7_comeWhole 169 = .ok (.sipush 256, 3) := by decide +kernel
theorem dX7_comeWhole_172 : decode cX7_comeWhole 172 = .ok (.idiv, 1) := by decide +kernel
theorem dX7_comeWhole_173 : decode cX7_comeWhole 173 = .ok (.iastore, 1) := by decide +kernel
theorem dX7_comeWhole_174 : decode cX7_comeWhole 174 = .ok (.aload_n 0, 1) := by decide +kernel
theorem dX7_comeWhole_175 : decode cX7_comeWhole 175 = .ok (.getfield 86, 3) := by decide +kernel
theorem dX7_comeWhole_178 : decode cX7_comeWhole 178 = .ok (.bipush 12, 2) := by decide +kernel
theorem dX7_comeWhole_180 : decode cX7_comeWhole 180 = .ok (.iload 6, 2) := by decide +kernel
theorem dX7_comeWhole_182 : decode cX7_comeWhole 182 = .ok (.sipush 256, 3) := by decide +kernel
theorem dX7_comeWhole_185 : decode cX7_comeWhole 185 = .ok (.irem, 1) := by decide +kernel
theorem dX7_comeWhole_186 : decode cX7_comeWhole 186 = .ok (.iastore, 1) := by decide +kernel
theorem dX7_comeWhole_187 : decode cX7_comeWhole 187 = .ok (.aload_n 0, 1) := by decide +kernel
theorem dX7_comeWhole_188 : decode cX7_comeWhole 188 = .ok (.bipush 8, 2) := by decide +kernel
theorem dX7_comeWhole_190 : decode cX7_comeWhole 190 = .ok (.iload_n 2, 1) := by decide +kernel
theorem dX7_comeWhole_191 : decode cX7_comeWhole 191 = .ok (.iconst 4, 1) := by decide +kernel
theorem dX7_comeWhole_192 : decode cX7_comeWhole 192 = .ok (.if_icmp .ne 8, 3) := by decide +kernel
theorem dX7_comeWhole_195 : decode cX7_comeWhole 195 = .ok (.bipush 13, 2) := by decide +kernel
theorem dX7_comeWhole_197 : decode cX7_comeWhole 197 = .ok (.goto 5, 3) := by decide +kernel
theorem dX7_comeWhole_200 : decode cX7_comeWhole 200 = .ok (.bipush 11, 2) := by decide +kernel
theorem dX7_comeWhole_202 : decode cX7_comeWhole 202 = .ok (.invokevirtual 128, 3) := by decide +kernel
theorem dX7_comeWhole_205 : decode cX7_comeWhole 205 = .ok (.aload_n 0, 1) := by decide +kernel
theorem dX7_comeWhole_206 : decode cX7_comeWhole 206 = .ok (.getfield 89, 3) := by decide +kernel
theorem dX7_comeWhole_209 : decode cX7_comeWhole 209 = .ok (.iload 7, 2) := by decide +kernel
theorem dX7_comeWhole_211 : decode cX7_comeWhole 211 = .ok (.bipush 9, 2) := by decide +kernel
theorem dX7_comeWhole_213 : decode cX7_comeWhole 213 = .ok (.iadd, 1) := by decide +kernel
theorem dX7_comeWhole_214 : decode cX7_comeWhole 214 = .ok (.iaload, 1) := by decide +kernel
theorem dX7_comeWhole_215 : decode cX7_comeWhole 215 = .ok (.if_icmp .eq 5, 3) := by decide +kernel
theorem dX7_comeWhole_218 : decode cX7_comeWhole 218 = .ok (.iconst 0, 1) := by decide +kernel
theorem dX7_comeWhole_219 : decode cX7_comeWhole 219 = .ok (.ireturn, 1) := by decide +kernel
theorem dX7_comeWhole_220 : decode cX7_comeWhole 220 = .ok (.aload_n 0, 1) := by decide +kernel
theorem dX7_comeWhole_221 : decode cX7_comeWhole 221 = .ok (.getfield 56, 3) := by decide +kernel
theorem dX7_comeWhole_224 : decode cX7_comeWhole 224 = .ok (.iload_n 1, 1) := by decide +kernel
theorem dX7_comeWhole_225 : decode cX7_comeWhole 225 = .ok (.iload 4, 2) := by decide +kernel
theorem dX7_comeWhole_227 : decode cX7_comeWhole 227 = .ok (.iastore, 1) := by decide +kernel
theorem dX7_comeWhole_228 : decode cX7_comeWhole 228 = .ok (.aload_n 0, 1) := by decide +kernel
theorem dX7_comeWhole_229 : decode cX7_comeWhole 229 = .ok (.getfield 59, 3) := by decide +kernel
theorem dX7_comeWhole_232 : decode cX7_comeWhole 232 = .ok (.iload_n 1, 1) := by decide +kernel
theorem dX7_comeWhole_233 : decode cX7_comeWhole 233 = .ok (.iload 5, 2) := by decide +kernel
theorem dX7_comeWhole_235 : decode cX7_comeWhole 235 = .ok (.iastore, 1) := by decide +kernel
theorem dX7_comeWhole_236 : decode cX7_comeWhole 236 = .ok (.aload_n 0, 1) := by decide +kernel
theorem dX7_comeWhole_237 : decode cX7_comeWhole 237 = .ok (.getfield 62, 3) := by decide +kernel
theorem dX7_comeWhole_240 : decode cX7_comeWhole 240 = .ok (.iload_n 1, 1) := by decide +kernel
theorem dX7_comeWhole_241 : decode cX7_comeWhole 241 = .ok (.iload 6, 2) := by decide +kernel
theorem dX7_comeWhole_243 : decode cX7_comeWhole 243 = .ok (.iastore, 1) := by decide +kernel
theorem dX7_comeWhole_244 : decode cX7_comeWhole 244 = .ok (.aload_n 0, 1) := by decide +kernel
theorem dX7_comeWhole_245 : decode cX7_comeWhole 245 = .ok (.getfield 65, 3) := by decide +kernel
theorem dX7_comeWhole_248 : decode cX7_comeWhole 248 = .ok (.iload_n 1, 1) := by decide +kernel
theorem dX7_comeWhole_249 : decode cX7_comeWhole 249 = .ok (.iload 9, 2) := by decide +kernel
theorem dX7_comeWhole_251 : decode cX7_comeWhole 251 = .ok (.iload 8, 2) := by decide +kernel
theorem dX7_comeWhole_253 : decode cX7_comeWhole 253 = .ok (.iload 6, 2) := by decide +kernel
theorem dX7_comeWhole_255 : decode cX7_comeWhole 255 = .ok (.imul, 1) := by decide +kernel
theorem dX7_comeWhole_256 : decode cX7_comeWhole 256 = .ok (.isub, 1) := by decide +kernel
theorem dX7_comeWhole_257 : decode cX7_comeWhole 257 = .ok (.iastore, 1) := by decide +kernel
theorem dX7_comeWhole_258 : decode cX7_comeWhole 258 = .ok (.aload_n 0, 1) := by decide +kernel
theorem dX7_comeWhole_259 : decode cX7_comeWhole 259 = .ok (.getfield 68, 3) := by decide +kernel
theorem dX7_comeWhole_262 : decode cX7_comeWhole 262 = .ok (.iload_n 1, 1) := by decide +kernel
theorem dX7_comeWhole_263 : decode cX7_comeWhole 263 = .ok (.iload 10, 2) := by decide +kernel
theorem dX7_comeWhole_265 : decode cX7_comeWhole 265 = .ok (.iload 8, 2) := by decide +kernel
theorem dX7_comeWhole_267 : decode cX7_comeWhole 267 = .ok (.isub, 1) := by decide +kernel
theorem dX7_comeWhole_268 : decode cX7_comeWhole 268 = .ok (.ldc 96, 2) := by decide +kernel
theorem dX7_comeWhole_270 : decode cX7_comeWhole 270 = .ok (.iand, 1) := by decide +kernel
theorem dX7_comeWhole_271 : decode cX7_comeWhole 271 = .ok (.iastore, 1) := by decide +kernel
theorem dX7_comeWhole_272 : decode cX7_comeWhole 272 = .ok (.aload_n 0, 1) := by decide +kernel
theorem dX7_comeWhole_273 : decode cX7_comeWhole 273 = .ok (.iload_n 1, 1) := by decide +kernel
theorem dX7_comeWhole_274 : decode cX7_comeWhole 274 = .ok (.iload 8, 2) := by decide +kernel
theorem dX7_comeWhole_276 : decode cX7_comeWhole 276 = .ok (.invokevirtual 178, 3) := by decide +kernel
theorem dX7_comeWhole_279 : decode cX7_comeWhole 279 = .ok (.aload_n 0, 1) := by decide +kernel
theorem dX7_comeWhole_280 : decode cX7_comeWhole 280 = .ok (.getfield 53, 3) := by decide +kernel
theorem dX7_comeWhole_283 : decode cX7_comeWhole 283 = .ok (.iload_n 1, 1) := by decide +kernel
theorem dX7_comeWhole_284 : decode cX7_comeWhole 284 = .ok (.iconst 2, 1) := by decide +kernel
theorem dX7_comeWhole_285 : decode cX7_comeWhole 285 = .ok (.iastore, 1) := by decide +kernel
theorem dX7_comeWhole_286 : decode cX7_comeWhole 286 = .ok (.iconst 1, 1) := by decide +kernel
theorem dX7_comeWhole_287 : decode cX7_comeWhole 287 = .ok (.ireturn, 1) := by decide +kernel
theorem dX7_deliver_0 : decode cX7_deliver 0 = .ok (.aload_n 0, 1) := by decide +kernel
theorem dX7_deliver_1 : decode cX7_deliver 1 = .ok (.aload_n 0, 1) := by decide +kernel
theorem dX7_deliver_2 : decode cX7_deliver 2 = .ok (.iload_n 1, 1) := by decide +kernel
theorem dX7_deliver_3 : decode cX7_deliver 3 = .ok (.invokevirtual 157, 3) := by decide +kernel
theorem dX7_deliver_6 : decode cX7_deliver 6 = .ok (.ifCond .eq 7, 3) := by decide +kernel
theorem dX7_deliver_9 : decode cX7_deliver 9 = .ok (.iconst 1, 1) := by decide +kernel
theorem dX7_deliver_10 : decode cX7_deliver 10 = .ok (.goto 4, 3) := by decide +kernel
theorem dX7_deliver_13 : decode cX7_deliver 13 = .ok (.iconst 0, 1) := by decide +kernel
theorem dX7_deliver_14 : decode cX7_deliver 14 = .ok (.putfield 92, 3) := by decide +kernel
theorem dX7_deliver_17 : decode cX7_deliver 17 = .ok (.aload_n 0, 1) := by decide +kernel
theorem dX7_deliver_18 : decode cX7_deliver 18 = .ok (.getfield 92, 3) := by decide +kernel
theorem dX7_deliver_21 : decode cX7_deliver 21 = .ok (.ifCond .eq 5, 3) := by decide +kernel
theorem dX7_deliver_24 : decode cX7_deliver 24 = .ok (.iconst 0, 1) := by decide +kernel
theorem dX7_deliver_25 : decode cX7_deliver 25 = .ok (.ireturn, 1) := by decide +kernel
theorem dX7_deliver_26 : decode cX7_deliver 26 = .ok (.aload_n 0, 1) := by decide +kernel
theorem dX7_deliver_27 : decode cX7_deliver 27 = .ok (.aload_n 0, 1) := by decide +kernel
theorem dX7_deliver_28 : decode cX7_deliver 28 = .ok (.getfield 47, 3) := by decide +kernel
theorem dX7_deliver_31 : decode cX7_deliver 31 = .ok (.iload_n 1, 1) := by decide +kernel
theorem dX7_deliver_32 : decode cX7_deliver 32 = .ok (.iaload, 1) := by decide +kernel
theorem dX7_deliver_33 : decode cX7_deliver 33 = .ok (.putfield 121, 3) := by decide +kernel
theorem dX7_deliver_36 : decode cX7_deliver 36 = .ok (.iconst 0, 1) := by decide +kernel
theorem dX7_deliver_37 : decode cX7_deliver 37 = .ok (.istore_n 2, 1) := by decide +kernel
theorem dX7_deliver_38 : decode cX7_deliver 38 = .ok (.iload_n 2, 1) := by decide +kernel
theorem dX7_deliver_39 : decode cX7_deliver 39 = .ok (.aload_n 0, 1) := by decide +kernel
theorem dX7_deliver_40 : decode cX7_deliver 40 = .ok (.getfield 121, 3) := by decide +kernel
theorem dX7_deliver_43 : decode cX7_deliver 43 = .ok (.if_icmp .ge 26, 3) := by decide +kernel
theorem dX7_deliver_46 : decode cX7_deliver 46 = .ok (.aload_n 0, 1) := by decide +kernel
theorem dX7_deliver_47 : decode cX7_deliver 47 = .ok (.getfield 89, 3) := by decide +kernel
theorem dX7_deliver_50 : decode cX7_deliver 50 = .ok (.iload_n 2, 1) := by decide +kernel
theorem dX7_deliver_51 : decode cX7_deliver 51 = .ok (.aload_n 0, 1) := by decide +kernel
theorem dX7_deliver_52 : decode cX7_deliver 52 = .ok (.getfield 50, 3) := by decide +kernel
theorem dX7_deliver_55 : decode cX7_deliver 55 = .ok (.bipush 20, 2) := by decide +kernel
theorem dX7_deliver_57 : decode cX7_deliver 57 = .ok (.iload_n 1, 1) := by decide +kernel
theorem dX7_deliver_58 : decode cX7_deliver 58 = .ok (.imul, 1) := by decide +kernel
theorem dX7_deliver_59 : decode cX7_deliver 59 = .ok (.iload_n 2, 1) := by decide +kernel
theorem dX7_deliver_60 : decode cX7_deliver 60 = .ok (.iadd, 1) := by decide +kernel
theorem dX7_deliver_61 : decode cX7_deliver 61 = .ok (.iaload, 1) := by decide +kernel
theorem dX7_deliver_62 : decode cX7_deliver 62 = .ok (.iastore, 1) := by decide +kernel
theorem dX7_deliver_63 : decode cX7_deliver 63 = .ok (.iinc 2 1, 3) := by decide +kernel
theorem dX7_deliver_66 : decode cX7_deliver 66 = .ok (.goto (-28), 3) := by decide +kernel
theorem dX7_deliver_69 : decode cX7_deliver 69 = .ok (.aload_n 0, 1) := by decide +kernel
theorem dX7_deliver_70 : decode cX7_deliver 70 = .ok (.iload_n 1, 1) := by decide +kernel
theorem dX7_deliver_71 : decode cX7_deliver 71 = .ok (.invokevirtual 164, 3) := by decide +kernel
theorem dX7_deliver_74 : decode cX7_deliver 74 = .ok (.aload_n 0, 1) := by decide +kernel
theorem dX7_deliver_75 : decode cX7_deliver 75 = .ok (.getfield 89, 3) := by decide +kernel
theorem dX7_deliver_78 : decode cX7_deliver 78 = .ok (.iconst 0, 1) := by decide +kernel
theorem dX7_deliver_79 : decode cX7_deliver 79 = .ok (.iaload, 1) := by decide +kernel
theorem dX7_deliver_80 : decode cX7_deliver 80 = .ok (.sipush 224, 3) := by decide +kernel
theorem dX7_deliver_83 : decode cX7_deliver 83 = .ok (.if_icmp .le 19, 3) := by decide +kernel
theorem dX7_deliver_86 : decode cX7_deliver 86 = .ok (.aload_n 0, 1) := by decide +kernel
theorem dX7_deliver_87 : decode cX7_deliver 87 = .ok (.getfield 89, 3) := by decide +kernel
theorem dX7_deliver_90 : decode cX7_deliver 90 = .ok (.iconst 0, 1) := by decide +kernel
theorem dX7_deliver_91 : decode cX7_deliver 91 = .ok (.iaload, 1) := by decide +kernel
theorem dX7_deliver_92 : decode cX7_deliver 92 = .ok (.sipush 228, 3) := by decide +kernel
theorem dX7_deliver_95 : decode cX7_deliver 95 = .ok (.if_icmp .ge 7, 3) := by decide +kernel
theorem dX7_deliver_98 : decode cX7_deliver 98 = .ok (.iconst 1, 1) := by decide +kernel
theorem dX7_deliver_99 : decode cX7_deliver 99 = .ok (.goto 4, 3) := by decide +kernel
theorem dX7_deliver_102 : decode cX7_deliver 102 = .ok (.iconst 0, 1) := by decide +kernel
theorem dX7_deliver_103 : decode cX7_deliver 103 = .ok (.istore_n 2, 1) := by decide +kernel
theorem dX7_deliver_104 : decode cX7_deliver 104 = .ok (.iload_n 2, 1) := by decide +kernel
theorem dX7_deliver_105 : decode cX7_deliver 105 = .ok (.iconst 1, 1) := by decide +kernel
theorem dX7_deliver_106 : decode cX7_deliver 106 = .ok (.if_icmp .ne 16, 3) := by decide +kernel
theorem dX7_deliver_109 : decode cX7_deliver 109 = .ok (.aload_n 0, 1) := by decide +kernel
theorem dX7_deliver_110 : decode cX7_deliver 110 = .ok (.getfield 89, 3) := by decide +kernel
theorem dX7_deliver_113 : decode cX7_deliver 113 = .ok (.iconst 0, 1) := by decide +kernel
theorem dX7_deliver_114 : decode cX7_deliver 114 = .ok (.iaload, 1) := by decide +kernel
theorem dX7_deliver_115 : decode cX7_deliver 115 = .ok (.sipush 224, 3) := by decide +kernel
theorem dX7_deliver_118 : decode cX7_deliver 118 = .ok (.isub, 1) := by decide +kernel
theorem dX7_deliver_119 : decode cX7_deliver 119 = .ok (.goto 4, 3) := by decide +kernel
theorem dX7_deliver_122 : decode cX7_deliver 122 = .ok (.iconst 0, 1) := by decide +kernel
theorem dX7_deliver_123 : decode cX7_deliver 123 = .ok (.istore_n 3, 1) := by decide +kernel
theorem dX7_deliver_124 : decode cX7_deliver 124 = .ok (.iload_n 2, 1) := by decide +kernel
theorem dX7_deliver_125 : decode cX7_deliver 125 = .ok (.aload_n 0, 1) := by decide +kernel
theorem dX7_deliver_126 : decode cX7_deliver 126 = .ok (.getfield 121, 3) := by decide +kernel
theorem dX7_deliver_129 : decode cX7_deliver 129 = .ok (.if_icmp .ge 16, 3) := by decide +kernel
theorem dX7_deliver_132 : decode cX7_deliver 132 = .ok (.aload_n 0, 1) := by decide +kernel
theorem dX7_deliver_133 : decode cX7_deliver 133 = .ok (.aload_n 0, 1) := by decide +kernel
theorem dX7_deliver_134 : decode cX7_deliver 134 = .ok (.getfield 89, 3) := by decide +kernel
theorem dX7_deliver_137 : decode cX7_deliver 137 = .ok (.iload_n 2, 1) := by decide +kernel
theorem dX7_deliver_138 : decode cX7_deliver 138 = .ok (.iaload, 1) := by decide +kernel
theorem dX7_deliver_139 : decode cX7_deliver 139 = .ok (.invokevirtual 184, 3) := by decide +kernel
theorem dX7_deliver_142 : decode cX7_deliver 142 = .ok (.goto 4, 3) := by decide +kernel
theorem dX7_deliver_145 : decode cX7_deliver 145 = .ok (.iconst (-1), 1) := by decide +kernel
theorem dX7_deliver_146 : decode cX7_deliver 146 = .ok (.istore 4, 2) := by decide +kernel
theorem dX7_deliver_148 : decode cX7_deliver 148 = .ok (.aload_n 0, 1) := by decide +kernel
theorem dX7_deliver_149 : decode cX7_deliver 149 = .ok (.iload 4, 2) := by decide +kernel
theorem dX7_deliver_151 : decode cX7_deliver 151 = .ok (.iload_n 2, 1) := by decide +kernel
theorem dX7_deliver_152 : decode cX7_deliver 152 = .ok (.invokevirtual 187, 3) := by decide +kernel
theorem dX7_deliver_155 : decode cX7_deliver 155 = .ok (.ifCond .eq 21, 3) := by decide +kernel
theorem dX7_deliver_158 : decode cX7_deliver 158 = .ok (.aload_n 0, 1) := by decide +kernel
theorem dX7_deliver_159 : decode cX7_deliver 159 = .ok (.getfield 83, 3) := by decide +kernel
theorem dX7_deliver_162 : decode cX7_deliver 162 = .ok (.bipush 8, 2) := by decide +kernel
theorem dX7_deliver_164 : decode cX7_deliver 164 = .ok (.dup2, 1) := by decide +kernel
theorem dX7_deliver_165 : decode cX7_deliver 165 = .ok (.iaload, 1) := by decide +kernel
theorem dX7_deliver_166 : decode cX7_deliver 166 = .ok (.iconst 1, 1) := by decide +kernel
theorem dX7_deliver_167 : decode cX7_deliver 167 = .ok (.iadd, 1) := by decide +kernel
theorem dX7_deliver_168 : decode cX7_deliver 168 = .ok (.iastore, 1) := by decide +kernel
theorem dX7_deliver_169 : decode cX7_deliver 169 = .ok (.aload_n 0, 1) := by decide +kernel
theorem dX7_deliver_170 : decode cX7_deliver 170 = .ok (.iconst 2, 1) := by decide +kernel
theorem dX7_deliver_171 : decode cX7_deliver 171 = .ok (.putfield 92, 3) := by decide +kernel
theorem dX7_deliver_174 : decode cX7_deliver 174 = .ok (.iconst 0, 1) := by decide +kernel
theorem dX7_deliver_175 : decode cX7_deliver 175 = .ok (.ireturn, 1) := by decide +kernel
theorem dX7_deliver_176 : decode cX7_deliver 176 = .ok (.iload 4, 2) := by decide +kernel
theorem dX7_deliver_178 : decode cX7_deliver 178 = .ok (.iconst 3, 1) := by decide +kernel
theorem dX7_deliver_179 : decode cX7_deliver 179 = .ok (.if_icmp .ne 12, 3) := by decide +kernel
theorem dX7_deliver_182 : decode cX7_deliver 182 = .ok (.aload_n 0, 1) := by decide +kernel
theorem dX7_deliver_183 : decode cX7_deliver 183 = .ok (.getfield 53, 3) := by decide +kernel
theorem dX7_deliver_186 : decode cX7_deliver 186 = .ok (.iload_n 3, 1) := by decide +kernel
theorem dX7_deliver_187 : decode cX7_deliver 187 = .ok (.iaload, 1) := by decide +kernel
theorem dX7_deliver_188 : decode cX7_deliver 188 = .ok (.ifCond .eq 19, 3) := by decide +kernel
theorem dX7_deliver_191 : decode cX7_deliver 191 = .ok (.iload 4, 2) := by decide +kernel
theorem dX7_deliver_193 : decode cX7_deliver 193 = .ok (.iconst 3, 1) := by decide +kernel
theorem dX7_deliver_194 : decode cX7_deliver 194 = .ok (.if_icmp .ge 31, 3) := by decide +kernel
theorem dX7_deliver_197 : decode cX7_deliver 197 = .ok (.aload_n 0, 1) := by decide +kernel
theorem dX7_deliver_198 : decode cX7_deliver 198 = .ok (.getfield 53, 3) := by decide +kernel
theorem dX7_deliver_201 : decode cX7_deliver 201 = .ok (.iload_n 3, 1) := by decide +kernel
theorem dX7_deliver_202 : decode cX7_deliver 202 = .ok (.iaload, 1) := by decide +kernel
theorem dX7_deliver_203 : decode cX7_deliver 203 = .ok (.iconst 2, 1) := by decide +kernel
theorem dX7_deliver_204 : decode cX7_deliver 204 = .ok (.if_icmp .ge 21, 3) := by decide +kernel
theorem dX7_deliver_207 : decode cX7_deliver 207 = .ok (.aload_n 0, 1) := by decide +kernel
theorem dX7_deliver_208 : decode cX7_deliver 208 = .ok (.getfield 83, 3) := by decide +kernel
theorem dX7_deliver_211 : decode cX7_deliver 211 = .ok (.bipush 9, 2) := by decide +kernel
theorem dX7_deliver_213 : decode cX7_deliver 213 = .ok (.dup2, 1) := by decide +kernel
theorem dX7_deliver_214 : decode cX7_deliver 214 = .ok (.iaload, 1) := by decide +kernel
theorem dX7_deliver_215 : decode cX7_deliver 215 = .ok (.iconst 1, 1) := by decide +kernel
theorem dX7_deliver_216 : decode cX7_deliver 216 = .ok (.iadd, 1) := by decide +kernel
theorem dX7_deliver_217 : decode cX7_deliver 217 = .ok (.iastore, 1) := by decide +kernel
theorem dX7_deliver_218 : decode cX7_deliver 218 = .ok (.aload_n 0, 1) := by decide +kernel
theorem dX7_deliver_219 : decode cX7_deliver 219 = .ok (.iconst 3, 1) := by decide +kernel
theorem dX7_deliver_220 : decode cX7_deliver 220 = .ok (.putfield 92, 3) := by decide +kernel
theorem dX7_deliver_223 : decode cX7_deliver 223 = .ok (.iconst 0, 1) := by decide +kernel
theorem dX7_deliver_224 : decode cX7_deliver 224 = .ok (.ireturn, 1) := by decide +kernel
theorem dX7_deliver_225 : decode cX7_deliver 225 = .ok (.iload 4, 2) := by decide +kernel
theorem dX7_deliver_227 : decode cX7_deliver 227 = .ok (.iconst 3, 1) := by decide +kernel
theorem dX7_deliver_228 : decode cX7_deliver 228 = .ok (.if_icmp .ge 14, 3) := by decide +kernel
theorem dX7_deliver_231 : decode cX7_deliver 231 = .ok (.aload_n 0, 1) := by decide +kernel
theorem dX7_deliver_232 : decode cX7_deliver 232 = .ok (.iload_n 3, 1) := by decide +kernel
theorem dX7_deliver_233 : decode cX7_deliver 233 = .ok (.iload 4, 2) := by decide +kernel
theorem dX7_deliver_235 : decode cX7_deliver 235 = .ok (.iload_n 2, 1) := by decide +kernel
theorem dX7_deliver_236 : decode cX7_deliver 236 = .ok (.invokevirtual 190, 3) := by decide +kernel
theorem dX7_deliver_239 : decode cX7_deliver 239 = .ok (.goto 19, 3) := by decide +kernel
theorem dX7_deliver_242 : decode cX7_deliver 242 = .ok (.aload_n 0, 1) := by decide +kernel
theorem dX7_deliver_243 : decode cX7_deliver 243 = .ok (.iload_n 3, 1) := by decide +kernel
theorem dX7_deliver_244 : decode cX7_deliver 244 = .ok (.iload 4, 2) := by decide +kernel
theorem dX7_deliver_246 : decode cX7_deliver 246 = .ok (.iload_n 2, 1) := by decide +kernel
theorem dX7_deliver_247 : decode cX7_deliver 247 = .ok (.invokevirtual 193, 3) := by decide +kernel
theorem dX7_deliver_250 : decode cX7_deliver 250 = .ok (.ifCond .eq 7, 3) := by decide +kernel
theorem dX7_deliver_253 : decode cX7_deliver 253 = .ok (.iconst 1, 1) := by decide +kernel
theorem dX7_deliver_254 : decode cX7_deliver 254 = .ok (.goto 4, 3) := by decide +kernel
theorem dX7_deliver_257 : decode cX7_deliver 257 = .ok (.iconst 0, 1) := by decide +kernel
theorem dX7_deliver_258 : decode cX7_deliver 258 = .ok (.istore 5, 2) := by decide +kernel
theorem dX7_deliver_260 : decode cX7_deliver 260 = .ok (.iload 5, 2) := by decide +kernel
theorem dX7_deliver_262 : decode cX7_deliver 262 = .ok (.ifCond .ne 15, 3) := by decide +kernel
theorem dX7_deliver_265 : decode cX7_deliver 265 = .ok (.aload_n 0, 1) := by decide +kernel
theorem dX7_deliver_266 : decode cX7_deliver 266 = .ok (.iload_n 3, 1) := by decide +kernel
theorem dX7_deliver_267 : decode cX7_deliver 267 = .ok (.invokevirtual 196, 3) := by decide +kernel
theorem dX7_deliver_270 : decode cX7_deliver 270 = .ok (.aload_n 0, 1) := by decide +kernel
theorem dX7_deliver_271 : decode cX7_deliver 271 = .ok (.iconst 4, 1) := by decide +kernel
theorem dX7_deliver_272 : decode cX7_deliver 272 = .ok (.putfield 92, 3) := by decide +kernel
theorem dX7_deliver_275 : decode cX7_deliver 275 = .ok (.iconst 0, 1) := by decide +kernel
theorem dX7_deliver_276 : decode cX7_deliver 276 = .ok (.ireturn, 1) := by decide +kernel
theorem dX7_deliver_277 : decode cX7_deliver 277 = .ok (.iload_n 3, 1) := by decide +kernel
theorem dX7_deliver_278 : decode cX7_deliver 278 = .ok (.iload 5, 2) := by decide +kernel
theorem dX7_deliver_280 : decode cX7_deliver 280 = .ok (.iconst 2, 1) := by decide +kernel
theorem dX7_deliver_281 : decode cX7_deliver 281 = .ok (.if_icmp .ne 7, 3) := by decide +kernel
theorem dX7_deliver_284 : decode cX7_deliver 284 = .ok (.iconst 4, 1) := by decide +kernel
theorem dX7_deliver_285 : decode cX7_deliver 285 = .ok (.goto 4, 3) := by decide +kernel
theorem dX7_deliver_288 : decode cX7_deliver 288 = .ok (.iconst 0, 1) := by decide +kernel
theorem dX7_deliver_289 : decode cX7_deliver 289 = .ok (.iadd, 1) := by decide +kernel
theorem dX7_deliver_290 : decode cX7_deliver 290 = .ok (.ireturn, 1) := by decide +kernel
theorem dX7_made_0 : decode cX7_made 0 = .ok (.aload_n 0, 1) := by decide +kernel
theorem dX7_made_1 : decode cX7_made 1 = .ok (.iload_n 1, 1) := by decide +kernel
theorem dX7_made_2 : decode cX7_made 2 = .ok (.ifCond .lt 9, 3) := by decide +kernel
theorem dX7_made_5 : decode cX7_made 5 = .ok (.iload_n 1, 1) := by decide +kernel
theorem dX7_made_6 : decode cX7_made 6 = .ok (.bipush 10, 2) := by decide +kernel
theorem dX7_made_8 : decode cX7_made 8 = .ok (.if_icmp .le 7, 3) := by decide +kernel
theorem dX7_made_11 : decode cX7_made 11 = .ok (.iconst 1, 1) := by decide +kernel
theorem dX7_made_12 : decode cX7_made 12 = .ok (.goto 4, 3) := by decide +kernel
theorem dX7_made_15 : decode cX7_made 15 = .ok (.iconst 0, 1) := by decide +kernel
theorem dX7_made_16 : decode cX7_made 16 = .ok (.putfield 92, 3) := by decide +kernel
theorem dX7_made_19 : decode cX7_made 19 = .ok (.aload_n 0, 1) := by decide +kernel
theorem dX7_made_20 : decode cX7_made 20 = .ok (.getfield 92, 3) := by decide +kernel
theorem dX7_made_23 : decode cX7_made 23 = .ok (.ifCond .ne 12, 3) := by decide +kernel
theorem dX7_made_26 : decode cX7_made 26 = .ok (.aload_n 0, 1) := by decide +kernel
theorem dX7_made_27 : decode cX7_made 27 = .ok (.getfield 80, 3) := by decide +kernel
theorem dX7_made_30 : decode cX7_made 30 = .ok (.iload_n 1, 1) := by decide +kernel
theorem dX7_made_31 : decode cX7_made 31 = .ok (.iaload, 1) := by decide +kernel
theorem dX7_made_32 : decode cX7_made 32 = .ok (.goto 4, 3) := by decide +kernel
theorem dX7_made_35 : decode cX7_made 35 = .ok (.iconst 0, 1) := by decide +kernel
theorem dX7_made_36 : decode cX7_made 36 = .ok (.ireturn, 1) := by decide +kernel
theorem dX7_sender_0 : decode cX7_sender 0 = .ok (.aload_n 0, 1) := by decide +kernel
theorem dX7_sender_1 : decode cX7_sender 1 = .ok (.aload_n 0, 1) := by decide +kernel
theorem dX7_sender_2 : decode cX7_sender 2 = .ok (.iload_n 1, 1) := by decide +kernel
theorem dX7_sender_3 : decode cX7_sender 3 = .ok (.invokevirtual 97, 3) := by decide +kernel
theorem dX7_sender_6 : decode cX7_sender 6 = .ok (.ifCond .eq 7, 3) := by decide +kernel
theorem dX7_sender_9 : decode cX7_sender 9 = .ok (.iconst 1, 1) := by decide +kernel
theorem dX7_sender_10 : decode cX7_sender 10 = .ok (.goto 17, 3) := by decide +kernel
theorem dX7_sender_13 : decode cX7_sender 13 = .ok (.iload_n 2, 1) := by decide +kernel
theorem dX7_sender_14 : decode cX7_sender 14 = .ok (.ifCond .lt 8, 3) := by decide +kernel
theorem dX7_sender_17 : decode cX7_sender 17 = .ok (.iload_n 2, 1) := by decide +kernel
theorem dX7_sender_18 : decode cX7_sender 18 = .ok (.iconst 4, 1) := by decide +kernel
theorem dX7_sender_19 : decode cX7_sender 19 = .ok (.if_icmp .le 7, 3) := by decide +kernel
theorem dX7_sender_22 : decode cX7_sender 22 = .ok (.iconst 2, 1) := by decide +kernel
theorem dX7_sender_23 : decode cX7_sender 23 = .ok (.goto 4, 3) := by decide +kernel
theorem dX7_sender_26 : decode cX7_sender 26 = .ok (.iconst 0, 1) := by decide +kernel
theorem dX7_sender_27 : decode cX7_sender 27 = .ok (.putfield 92, 3) := by decide +kernel
theorem dX7_sender_30 : decode cX7_sender 30 = .ok (.aload_n 0, 1) := by decide +kernel
theorem dX7_sender_31 : decode cX7_sender 31 = .ok (.getfield 92, 3) := by decide +kernel
theorem dX7_sender_34 : decode cX7_sender 34 = .ok (.ifCond .eq 5, 3) := by decide +kernel
theorem dX7_sender_37 : decode cX7_sender 37 = .ok (.iconst 0, 1) := by decide +kernel
theorem dX7_sender_38 : decode cX7_sender 38 = .ok (.ireturn, 1) := by decide +kernel
theorem dX7_sender_39 : decode cX7_sender 39 = .ok (.iload_n 2, 1) := by decide +kernel
theorem dX7_sender_40 : decode cX7_sender 40 = .ok (.ifCond .ne 12, 3) := by decide +kernel
theorem dX7_sender_43 : decode cX7_sender 43 = .ok (.aload_n 0, 1) := by decide +kernel
theorem dX7_sender_44 : decode cX7_sender 44 = .ok (.getfield 32, 3) := by decide +kernel
theorem dX7_sender_47 : decode cX7_sender 47 = .ok (.iload_n 1, 1) := by decide +kernel
theorem dX7_sender_48 : decode cX7_sender 48 = .ok (.iaload, 1) := by decide +kernel
theorem dX7_sender_49 : decode cX7_sender 49 = .ok (.goto 51, 3) := by decide +kernel
theorem dX7_sender_52 : decode cX7_sender 52 = .ok (.iload_n 2, 1) := by decide +kernel
theorem dX7_sender_53 : decode cX7_sender 53 = .ok (.iconst 1, 1) := by decide +kernel
theorem dX7_sender_54 : decode cX7_sender 54 = .ok (.if_icmp .ne 12, 3) := by decide +kernel
theorem dX7_sender_57 : decode cX7_sender 57 = .ok (.aload_n 0, 1) := by decide +kernel
theorem dX7_sender_58 : decode cX7_sender 58 = .ok (.getfield 35, 3) := by decide +kernel
theorem dX7_sender_61 : decode cX7_sender 61 = .ok (.iload_n 1, 1) := by decide +kernel
theorem dX7_sender_62 : decode cX7_sender 62 = .ok (.iaload, 1) := by decide +kernel
theorem dX7_sender_63 : decode cX7_sender 63 = .ok (.goto 37, 3) := by decide +kernel
theorem dX7_sender_66 : decode cX7_sender 66 = .ok (.iload_n 2, 1) := by decide +kernel
theorem dX7_sender_67 : decode cX7_sender 67 = .ok (.iconst 2, 1) := by decide +kernel
theorem dX7_sender_68 : decode cX7_sender 68 = .ok (.if_icmp .ne 12, 3) := by decide +kernel
theorem dX7_sender_71 : decode cX7_sender 71 = .ok (.aload_n 0, 1) := by decide +kernel
theorem dX7_sender_72 : decode cX7_sender 72 = .ok (.getfield 38, 3) := by decide +kernel
theorem dX7_sender_75 : decode cX7_sender 75 = .ok (.iload_n 1, 1) := by decide +kernel
theorem dX7_sender_76 : decode cX7_sender 76 = .ok (.iaload, 1) := by decide +kernel
theorem dX7_sender_77 : decode cX7_sender 77 = .ok (.goto 23, 3) := by decide +kernel
theorem dX7_sender_80 : decode cX7_sender 80 = .ok (.iload_n 2, 1) := by decide +kernel
theorem dX7_sender_81 : decode cX7_sender 81 = .ok (.iconst 3, 1) := by decide +kernel
theorem dX7_sender_82 : decode cX7_sender 82 = .ok (.if_icmp .ne 12, 3) := by decide +kernel
theorem dX7_sender_85 : decode cX7_sender 85 = .ok (.aload_n 0, 1) := by decide +kernel
theorem dX7_sender_86 : decode cX7_sender 86 = .ok (.getfield 26, 3) := by decide +kernel
theorem dX7_sender_89 : decode cX7_sender 89 = .ok (.iload_n 1, 1) := by decide +kernel
theorem dX7_sender_90 : decode cX7_sender 90 = .ok (.iaload, 1) := by decide +kernel
theorem dX7_sender_91 : decode cX7_sender 91 = .ok (.goto 9, 3) := by decide +kernel
theorem dX7_sender_94 : decode cX7_sender 94 = .ok (.aload_n 0, 1) := by decide +kernel
theorem dX7_sender_95 : decode cX7_sender 95 = .ok (.getfield 29, 3) := by decide +kernel
theorem dX7_sender_98 : decode cX7_sender 98 = .ok (.iload_n 1, 1) := by decide +kernel
theorem dX7_sender_99 : decode cX7_sender 99 = .ok (.iaload, 1) := by decide +kernel
theorem dX7_sender_100 : decode cX7_sender 100 = .ok (.ireturn, 1) := by decide +kernel
theorem dX7_receiver_0 : decode cX7_receiver 0 = .ok (.aload_n 0, 1) := by decide +kernel
theorem dX7_receiver_1 : decode cX7_receiver 1 = .ok (.aload_n 0, 1) := by decide +kernel
theorem dX7_receiver_2 : decode cX7_receiver 2 = .ok (.iload_n 1, 1) := by decide +kernel
theorem dX7_receiver_3 : decode cX7_receiver 3 = .ok (.invokevirtual 97, 3) := by decide +kernel
theorem dX7_receiver_6 : decode cX7_receiver 6 = .ok (.ifCond .eq 7, 3) := by decide +kernel
theorem dX7_receiver_9 : decode cX7_receiver 9 = .ok (.iconst 1, 1) := by decide +kernel
theorem dX7_receiver_10 : decode cX7_receiver 10 = .ok (.goto 17, 3) := by decide +kernel
theorem dX7_receiver_13 : decode cX7_receiver 13 = .ok (.iload_n 2, 1) := by decide +kernel
theorem dX7_receiver_14 : decode cX7_receiver 14 = .ok (.ifCond .lt 8, 3) := by decide +kernel
theorem dX7_receiver_17 : decode cX7_receiver 17 = .ok (.iload_n 2, 1) := by decide +kernel
theorem dX7_receiver_18 : decode cX7_receiver 18 = .ok (.iconst 3, 1) := by decide +kernel
theorem dX7_receiver_19 : decode cX7_receiver 19 = .ok (.if_icmp .le 7, 3) := by decide +kernel
theorem dX7_receiver_22 : decode cX7_receiver 22 = .ok (.iconst 2, 1) := by decide +kernel
theorem dX7_receiver_23 : decode cX7_receiver 23 = .ok (.goto 4, 3) := by decide +kernel
theorem dX7_receiver_26 : decode cX7_receiver 26 = .ok (.iconst 0, 1) := by decide +kernel
theorem dX7_receiver_27 : decode cX7_receiver 27 = .ok (.putfield 92, 3) := by decide +kernel
theorem dX7_receiver_30 : decode cX7_receiver 30 = .ok (.aload_n 0, 1) := by decide +kernel
theorem dX7_receiver_31 : decode cX7_receiver 31 = .ok (.getfield 92, 3) := by decide +kernel
theorem dX7_receiver_34 : decode cX7_receiver 34 = .ok (.ifCond .eq 5, 3) := by decide +kernel
theorem dX7_receiver_37 : decode cX7_receiver 37 = .ok (.iconst 0, 1) := by decide +kernel
theorem dX7_receiver_38 : decode cX7_receiver 38 = .ok (.ireturn, 1) := by decide +kernel
theorem dX7_receiver_39 : decode cX7_receiver 39 = .ok (.iload_n 2, 1) := by decide +kernel
theorem dX7_receiver_40 : decode cX7_receiver 40 = .ok (.ifCond .ne 12, 3) := by decide +kernel
theorem dX7_receiver_43 : decode cX7_receiver 43 = .ok (.aload_n 0, 1) := by decide +kernel
theorem dX7_receiver_44 : decode cX7_receiver 44 = .ok (.getfield 53, 3) := by decide +kernel
theorem dX7_receiver_47 : decode cX7_receiver 47 = .ok (.iload_n 1, 1) := by decide +kernel
theorem dX7_receiver_48 : decode cX7_receiver 48 = .ok (.iaload, 1) := by decide +kernel
theorem dX7_receiver_49 : decode cX7_receiver 49 = .ok (.goto 37, 3) := by decide +kernel
theorem dX7_receiver_52 : decode cX7_receiver 52 = .ok (.iload_n 2, 1) := by decide +kernel
theorem dX7_receiver_53 : decode cX7_receiver 53 = .ok (.iconst 1, 1) := by decide +kernel
theorem dX7_receiver_54 : decode cX7_receiver 54 = .ok (.if_icmp .ne 12, 3) := by decide +kernel
theorem dX7_receiver_57 : decode cX7_receiver 57 = .ok (.aload_n 0, 1) := by decide +kernel
theorem dX7_receiver_58 : decode cX7_receiver 58 = .ok (.getfield 71, 3) := by decide +kernel
theorem dX7_receiver_61 : decode cX7_receiver 61 = .ok (.iload_n 1, 1) := by decide +kernel
theorem dX7_receiver_62 : decode cX7_receiver 62 = .ok (.iaload, 1) := by decide +kernel
theorem dX7_receiver_63 : decode cX7_receiver 63 = .ok (.goto 23, 3) := by decide +kernel
theorem dX7_receiver_66 : decode cX7_receiver 66 = .ok (.iload_n 2, 1) := by decide +kernel
theorem dX7_receiver_67 : decode cX7_receiver 67 = .ok (.iconst 2, 1) := by decide +kernel
theorem dX7_receiver_68 : decode cX7_receiver 68 = .ok (.if_icmp .ne 12, 3) := by decide +kernel
theorem dX7_receiver_71 : decode cX7_receiver 71 = .ok (.aload_n 0, 1) := by decide +kernel
theorem dX7_receiver_72 : decode cX7_receiver 72 = .ok (.getfield 74, 3) := by decide +kernel
theorem dX7_receiver_75 : decode cX7_receiver 75 = .ok (.iload_n 1, 1) := by decide +kernel
theorem dX7_receiver_76 : decode cX7_receiver 76 = .ok (.iaload, 1) := by decide +kernel
theorem dX7_receiver_77 : decode cX7_receiver 77 = .ok (.goto 9, 3) := by decide +kernel
theorem dX7_receiver_80 : decode cX7_receiver 80 = .ok (.aload_n 0, 1) := by decide +kernel
theorem dX7_receiver_81 : decode cX7_receiver 81 = .ok (.getfield 77, 3) := by decide +kernel
theorem dX7_receiver_84 : decode cX7_receiver 84 = .ok (.iload_n 1, 1) := by decide +kernel
theorem dX7_receiver_85 : decode cX7_receiver 85 = .ok (.iaload, 1) := by decide +kernel
theorem dX7_receiver_86 : decode cX7_receiver 86 = .ok (.ireturn, 1) := by decide +kernel
theorem dX7_count_0 : decode cX7_count 0 = .ok (.aload_n 0, 1) := by decide +kernel
theorem dX7_count_1 : decode cX7_count 1 = .ok (.iload_n 1, 1) := by decide +kernel
theorem dX7_count_2 : decode cX7_count 2 = .ok (.ifCond .lt 9, 3) := by decide +kernel
theorem dX7_count_5 : decode cX7_count 5 = .ok (.iload_n 1, 1) := by decide +kernel
theorem dX7_count_6 : decode cX7_count 6 = .ok (.bipush 10, 2) := by decide +kernel
theorem dX7_count_8 : decode cX7_count 8 = .ok (.if_icmp .le 7, 3) := by decide +kernel
theorem dX7_count_11 : decode cX7_count 11 = .ok (.iconst 1, 1) := by decide +kernel
theorem dX7_count_12 : decode cX7_count 12 = .ok (.goto 4, 3) := by decide +kernel
theorem dX7_count_15 : decode cX7_count 15 = .ok (.iconst 0, 1) := by decide +kernel
theorem dX7_count_16 : decode cX7_count 16 = .ok (.putfield 92, 3) := by decide +kernel
theorem dX7_count_19 : decode cX7_count 19 = .ok (.aload_n 0, 1) := by decide +kernel
theorem dX7_count_20 : decode cX7_count 20 = .ok (.getfield 92, 3) := by decide +kernel
theorem dX7_count_23 : decode cX7_count 23 = .ok (.ifCond .ne 12, 3) := by decide +kernel
theorem dX7_count_26 : decode cX7_count 26 = .ok (.aload_n 0, 1) := by decide +kernel
theorem dX7_count_27 : decode cX7_count 27 = .ok (.getfield 83, 3) := by decide +kernel
theorem dX7_count_30 : decode cX7_count 30 = .ok (.iload_n 1, 1) := by decide +kernel
theorem dX7_count_31 : decode cX7_count 31 = .ok (.iaload, 1) := by decide +kernel
theorem dX7_count_32 : decode cX7_count 32 = .ok (.goto 4, 3) := by decide +kernel
theorem dX7_count_35 : decode cX7_count 35 = .ok (.iconst 0, 1) := by decide +kernel
theorem dX7_count_36 : decode cX7_count 36 = .ok (.ireturn, 1) := by decide +kernel
theorem dL_stride_0 : decode cL_stride 0 = .ok (.aload_n 0, 1) := by decide +kernel
theorem dL_stride_1 : decode cL_stride 1 = .ok (.iload_n 1, 1) := by decide +kernel
theorem dL_stride_2 : decode cL_stride 2 = .ok (.iload_n 2, 1) := by decide +kernel
theorem dL_stride_3 : decode cL_stride 3 = .ok (.invokevirtual 7, 3) := by decide +kernel
theorem dL_stride_6 : decode cL_stride 6 = .ok (.goto 9, 3) := by decide +kernel
theorem dL_stride_9 : decode cL_stride 9 = .ok (.astore_n 3, 1) := by decide +kernel
theorem dL_stride_10 : decode cL_stride 10 = .ok (.iconst 1, 1) := by decide +kernel
theorem dL_stride_11 : decode cL_stride 11 = .ok (.ireturn, 1) := by decide +kernel
theorem dL_stride_12 : decode cL_stride 12 = .ok (.astore_n 3, 1) := by decide +kernel
theorem dL_stride_13 : decode cL_stride 13 = .ok (.iconst 2, 1) := by decide +kernel
theorem dL_stride_14 : decode cL_stride 14 = .ok (.ireturn, 1) := by decide +kernel
theorem dL_stride_15 : decode cL_stride 15 = .ok (.iconst 0, 1) := by decide +kernel
theorem dL_stride_16 : decode cL_stride 16 = .ok (.ireturn, 1) := by decide +kernel
theorem dL_head_0 : decode cL_head 0 = .ok (.aload_n 0, 1) := by decide +kernel
theorem dL_head_1 : decode cL_head 1 = .ok (.iload_n 1, 1) := by decide +kernel
theorem dL_head_2 : decode cL_head 2 = .ok (.iload_n 2, 1) := by decide +kernel
theorem dL_head_3 : decode cL_head 3 = .ok (.iload_n 3, 1) := by decide +kernel
theorem dL_head_4 : decode cL_head 4 = .ok (.invokevirtual 17, 3) := by decide +kernel
theorem dL_head_7 : decode cL_head 7 = .ok (.goto 7, 3) := by decide +kernel
theorem dL_head_10 : decode cL_head 10 = .ok (.astore 4, 2) := by decide +kernel
theorem dL_head_12 : decode cL_head 12 = .ok (.iconst 1, 1) := by decide +kernel
theorem dL_head_13 : decode cL_head 13 = .ok (.ireturn, 1) := by decide +kernel
theorem dL_head_14 : decode cL_head 14 = .ok (.iconst 0, 1) := by decide +kernel
theorem dL_head_15 : decode cL_head 15 = .ok (.ireturn, 1) := by decide +kernel
theorem dL_send_0 : decode cL_send 0 = .ok (.aload 5, 2) := by decide +kernel
theorem dL_send_2 : decode cL_send 2 = .ok (.iconst 0, 1) := by decide +kernel
theorem dL_send_3 : decode cL_send 3 = .ok (.aload_n 0, 1) := by decide +kernel
theorem dL_send_4 : decode cL_send 4 = .ok (.iload_n 1, 1) := by decide +kernel
theorem dL_send_5 : decode cL_send 5 = .ok (.iload_n 2, 1) := by decide +kernel
theorem dL_send_6 : decode cL_send 6 = .ok (.iload_n 3, 1) := by decide +kernel
theorem dL_send_7 : decode cL_send 7 = .ok (.iload 4, 2) := by decide +kernel
theorem dL_send_9 : decode cL_send 9 = .ok (.invokevirtual 21, 3) := by decide +kernel
theorem dL_send_12 : decode cL_send 12 = .ok (.i2l, 1) := by decide +kernel
theorem dL_send_13 : decode cL_send 13 = .ok (.lastore, 1) := by decide +kernel
theorem dL_send_14 : decode cL_send 14 = .ok (.goto 11, 3) := by decide +kernel
theorem dL_send_17 : decode cL_send 17 = .ok (.astore 6, 2) := by decide +kernel
theorem dL_send_19 : decode cL_send 19 = .ok (.iconst 1, 1) := by decide +kernel
theorem dL_send_20 : decode cL_send 20 = .ok (.ireturn, 1) := by decide +kernel
theorem dL_send_21 : decode cL_send 21 = .ok (.astore 6, 2) := by decide +kernel
theorem dL_send_23 : decode cL_send 23 = .ok (.iconst 2, 1) := by decide +kernel
theorem dL_send_24 : decode cL_send 24 = .ok (.ireturn, 1) := by decide +kernel
theorem dL_send_25 : decode cL_send 25 = .ok (.iconst 0, 1) := by decide +kernel
theorem dL_send_26 : decode cL_send 26 = .ok (.ireturn, 1) := by decide +kernel
theorem dL_size_0 : decode cL_size 0 = .ok (.aload_n 2, 1) := by decide +kernel
theorem dL_size_1 : decode cL_size 1 = .ok (.iconst 0, 1) := by decide +kernel
theorem dL_size_2 : decode cL_size 2 = .ok (.aload_n 0, 1) := by decide +kernel
theorem dL_size_3 : decode cL_size 3 = .ok (.iload_n 1, 1) := by decide +kernel
theorem dL_size_4 : decode cL_size 4 = .ok (.invokevirtual 25, 3) := by decide +kernel
theorem dL_size_7 : decode cL_size 7 = .ok (.i2l, 1) := by decide +kernel
theorem dL_size_8 : decode cL_size 8 = .ok (.lastore, 1) := by decide +kernel
theorem dL_size_9 : decode cL_size 9 = .ok (.goto 6, 3) := by decide +kernel
theorem dL_size_12 : decode cL_size 12 = .ok (.astore_n 3, 1) := by decide +kernel
theorem dL_size_13 : decode cL_size 13 = .ok (.iconst 1, 1) := by decide +kernel
theorem dL_size_14 : decode cL_size 14 = .ok (.ireturn, 1) := by decide +kernel
theorem dL_size_15 : decode cL_size 15 = .ok (.iconst 0, 1) := by decide +kernel
theorem dL_size_16 : decode cL_size 16 = .ok (.ireturn, 1) := by decide +kernel
theorem dL_byteAt_0 : decode cL_byteAt 0 = .ok (.aload_n 3, 1) := by decide +kernel
theorem dL_byteAt_1 : decode cL_byteAt 1 = .ok (.iconst 0, 1) := by decide +kernel
theorem dL_byteAt_2 : decode cL_byteAt 2 = .ok (.aload_n 0, 1) := by decide +kernel
theorem dL_byteAt_3 : decode cL_byteAt 3 = .ok (.iload_n 1, 1) := by decide +kernel
theorem dL_byteAt_4 : decode cL_byteAt 4 = .ok (.iload_n 2, 1) := by decide +kernel
theorem dL_byteAt_5 : decode cL_byteAt 5 = .ok (.invokevirtual 29, 3) := by decide +kernel
theorem dL_byteAt_8 : decode cL_byteAt 8 = .ok (.i2l, 1) := by decide +kernel
theorem dL_byteAt_9 : decode cL_byteAt 9 = .ok (.lastore, 1) := by decide +kernel
theorem dL_byteAt_10 : decode cL_byteAt 10 = .ok (.goto 7, 3) := by decide +kernel
theorem dL_byteAt_13 : decode cL_byteAt 13 = .ok (.astore 4, 2) := by decide +kernel
theorem dL_byteAt_15 : decode cL_byteAt 15 = .ok (.iconst 1, 1) := by decide +kernel
theorem dL_byteAt_16 : decode cL_byteAt 16 = .ok (.ireturn, 1) := by decide +kernel
theorem dL_byteAt_17 : decode cL_byteAt 17 = .ok (.iconst 0, 1) := by decide +kernel
theorem dL_byteAt_18 : decode cL_byteAt 18 = .ok (.ireturn, 1) := by decide +kernel
theorem dL_spoil_0 : decode cL_spoil 0 = .ok (.aload_n 0, 1) := by decide +kernel
theorem dL_spoil_1 : decode cL_spoil 1 = .ok (.iload_n 1, 1) := by decide +kernel
theorem dL_spoil_2 : decode cL_spoil 2 = .ok (.iload_n 2, 1) := by decide +kernel
theorem dL_spoil_3 : decode cL_spoil 3 = .ok (.iload_n 3, 1) := by decide +kernel
theorem dL_spoil_4 : decode cL_spoil 4 = .ok (.invokevirtual 33, 3) := by decide +kernel
theorem dL_spoil_7 : decode cL_spoil 7 = .ok (.goto 11, 3) := by decide +kernel
theorem dL_spoil_10 : decode cL_spoil 10 = .ok (.astore 4, 2) := by decide +kernel
theorem dL_spoil_12 : decode cL_spoil 12 = .ok (.iconst 1, 1) := by decide +kernel
theorem dL_spoil_13 : decode cL_spoil 13 = .ok (.ireturn, 1) := by decide +kernel
theorem dL_spoil_14 : decode cL_spoil 14 = .ok (.astore 4, 2) := by decide +kernel
theorem dL_spoil_16 : decode cL_spoil 16 = .ok (.iconst 2, 1) := by decide +kernel
theorem dL_spoil_17 : decode cL_spoil 17 = .ok (.ireturn, 1) := by decide +kernel
theorem dL_spoil_18 : decode cL_spoil 18 = .ok (.iconst 0, 1) := by decide +kernel
theorem dL_spoil_19 : decode cL_spoil 19 = .ok (.ireturn, 1) := by decide +kernel
theorem dL_lose_0 : decode cL_lose 0 = .ok (.aload_n 0, 1) := by decide +kernel
theorem dL_lose_1 : decode cL_lose 1 = .ok (.iload_n 1, 1) := by decide +kernel
theorem dL_lose_2 : decode cL_lose 2 = .ok (.invokevirtual 37, 3) := by decide +kernel
theorem dL_lose_5 : decode cL_lose 5 = .ok (.goto 6, 3) := by decide +kernel
theorem dL_lose_8 : decode cL_lose 8 = .ok (.astore_n 2, 1) := by decide +kernel
theorem dL_lose_9 : decode cL_lose 9 = .ok (.iconst 1, 1) := by decide +kernel
theorem dL_lose_10 : decode cL_lose 10 = .ok (.ireturn, 1) := by decide +kernel
theorem dL_lose_11 : decode cL_lose 11 = .ok (.iconst 0, 1) := by decide +kernel
theorem dL_lose_12 : decode cL_lose 12 = .ok (.ireturn, 1) := by decide +kernel
theorem dL_deliver_0 : decode cL_deliver 0 = .ok (.aload_n 2, 1) := by decide +kernel
theorem dL_deliver_1 : decode cL_deliver 1 = .ok (.iconst 0, 1) := by decide +kernel
theorem dL_deliver_2 : decode cL_deliver 2 = .ok (.aload_n 0, 1) := by decide +kernel
theorem dL_deliver_3 : decode cL_deliver 3 = .ok (.iload_n 1, 1) := by decide +kernel
theorem dL_deliver_4 : decode cL_deliver 4 = .ok (.invokevirtual 41, 3) := by decide +kernel
theorem dL_deliver_7 : decode cL_deliver 7 = .ok (.i2l, 1) := by decide +kernel
theorem dL_deliver_8 : decode cL_deliver 8 = .ok (.lastore, 1) := by decide +kernel
theorem dL_deliver_9 : decode cL_deliver 9 = .ok (.goto 15, 3) := by decide +kernel
theorem dL_deliver_12 : decode cL_deliver 12 = .ok (.astore_n 3, 1) := by decide +kernel
theorem dL_deliver_13 : decode cL_deliver 13 = .ok (.iconst 1, 1) := by decide +kernel
theorem dL_deliver_14 : decode cL_deliver 14 = .ok (.ireturn, 1) := by decide +kernel
theorem dL_deliver_15 : decode cL_deliver 15 = .ok (.astore_n 3, 1) := by decide +kernel
theorem dL_deliver_16 : decode cL_deliver 16 = .ok (.iconst 2, 1) := by decide +kernel
theorem dL_deliver_17 : decode cL_deliver 17 = .ok (.ireturn, 1) := by decide +kernel
theorem dL_deliver_18 : decode cL_deliver 18 = .ok (.astore_n 3, 1) := by decide +kernel
theorem dL_deliver_19 : decode cL_deliver 19 = .ok (.iconst 3, 1) := by decide +kernel
theorem dL_deliver_20 : decode cL_deliver 20 = .ok (.ireturn, 1) := by decide +kernel
theorem dL_deliver_21 : decode cL_deliver 21 = .ok (.astore_n 3, 1) := by decide +kernel
theorem dL_deliver_22 : decode cL_deliver 22 = .ok (.iconst 4, 1) := by decide +kernel
theorem dL_deliver_23 : decode cL_deliver 23 = .ok (.ireturn, 1) := by decide +kernel
theorem dL_deliver_24 : decode cL_deliver 24 = .ok (.iconst 0, 1) := by decide +kernel
theorem dL_deliver_25 : decode cL_deliver 25 = .ok (.ireturn, 1) := by decide +kernel
theorem dL_made_0 : decode cL_made 0 = .ok (.aload_n 2, 1) := by decide +kernel
theorem dL_made_1 : decode cL_made 1 = .ok (.iconst 0, 1) := by decide +kernel
theorem dL_made_2 : decode cL_made 2 = .ok (.aload_n 0, 1) := by decide +kernel
theorem dL_made_3 : decode cL_made 3 = .ok (.iload_n 1, 1) := by decide +kernel
theorem dL_made_4 : decode cL_made 4 = .ok (.invokevirtual 48, 3) := by decide +kernel
theorem dL_made_7 : decode cL_made 7 = .ok (.i2l, 1) := by decide +kernel
theorem dL_made_8 : decode cL_made 8 = .ok (.lastore, 1) := by decide +kernel
theorem dL_made_9 : decode cL_made 9 = .ok (.goto 6, 3) := by decide +kernel
theorem dL_made_12 : decode cL_made 12 = .ok (.astore_n 3, 1) := by decide +kernel
theorem dL_made_13 : decode cL_made 13 = .ok (.iconst 1, 1) := by decide +kernel
theorem dL_made_14 : decode cL_made 14 = .ok (.ireturn, 1) := by decide +kernel
theorem dL_made_15 : decode cL_made 15 = .ok (.iconst 0, 1) := by decide +kernel
theorem dL_made_16 : decode cL_made 16 = .ok (.ireturn, 1) := by decide +kernel
theorem dL_sender_0 : decode cL_sender 0 = .ok (.aload_n 3, 1) := by decide +kernel
theorem dL_sender_1 : decode cL_sender 1 = .ok (.iconst 0, 1) := by decide +kernel
theorem dL_sender_2 : decode cL_sender 2 = .ok (.aload_n 0, 1) := by decide +kernel
theorem dL_sender_3 : decode cL_sender 3 = .ok (.iload_n 1, 1) := by decide +kernel
theorem dL_sender_4 : decode cL_sender 4 = .ok (.iload_n 2, 1) := by decide +kernel
theorem dL_sender_5 : decode cL_sender 5 = .ok (.invokevirtual 51, 3) := by decide +kernel
theorem dL_sender_8 : decode cL_sender 8 = .ok (.i2l, 1) := by decide +kernel
theorem dL_sender_9 : decode cL_sender 9 = .ok (.lastore, 1) := by decide +kernel
theorem dL_sender_10 : decode cL_sender 10 = .ok (.goto 11, 3) := by decide +kernel
theorem dL_sender_13 : decode cL_sender 13 = .ok (.astore 4, 2) := by decide +kernel
theorem dL_sender_15 : decode cL_sender 15 = .ok (.iconst 1, 1) := by decide +kernel
theorem dL_sender_16 : decode cL_sender 16 = .ok (.ireturn, 1) := by decide +kernel
theorem dL_sender_17 : decode cL_sender 17 = .ok (.astore 4, 2) := by decide +kernel
theorem dL_sender_19 : decode cL_sender 19 = .ok (.iconst 2, 1) := by decide +kernel
theorem dL_sender_20 : decode cL_sender 20 = .ok (.ireturn, 1) := by decide +kernel
theorem dL_sender_21 : decode cL_sender 21 = .ok (.iconst 0, 1) := by decide +kernel
theorem dL_sender_22 : decode cL_sender 22 = .ok (.ireturn, 1) := by decide +kernel
