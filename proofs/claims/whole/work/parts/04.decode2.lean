theorem dX4_noteFailure_0 : decode cX4_noteFailure 0 = .ok (.aload_n 0, 1) := by decide +kernel
theorem dX4_noteFailure_1 : decode cX4_noteFailure 1 = .ok (.dup, 1) := by decide +kernel
theorem dX4_noteFailure_2 : decode cX4_noteFailure 2 = .ok (.getfield 115, 3) := by decide +kernel
theorem dX4_noteFailure_5 : decode cX4_noteFailure 5 = .ok (.iconst 1, 1) := by decide +kernel
theorem dX4_noteFailure_6 : decode cX4_noteFailure 6 = .ok (.iadd, 1) := by decide +kernel
theorem dX4_noteFailure_7 : decode cX4_noteFailure 7 = .ok (.putfield 115, 3) := by decide +kernel
theorem dX4_noteFailure_10 : decode cX4_noteFailure 10 = .ok (.aload_n 0, 1) := by decide +kernel
theorem dX4_noteFailure_11 : decode cX4_noteFailure 11 = .ok (.getfield 115, 3) := by decide +kernel
theorem dX4_noteFailure_14 : decode cX4_noteFailure 14 = .ok (.iconst 3, 1) := by decide +kernel
theorem dX4_noteFailure_15 : decode cX4_noteFailure 15 = .ok (.if_icmp .ne 22, 3) := by decide +kernel
theorem dX4_noteFailure_18 : decode cX4_noteFailure 18 = .ok (.aload_n 0, 1) := by decide +kernel
theorem dX4_noteFailure_19 : decode cX4_noteFailure 19 = .ok (.iconst 0, 1) := by decide +kernel
theorem dX4_noteFailure_20 : decode cX4_noteFailure 20 = .ok (.putfield 115, 3) := by decide +kernel
theorem dX4_noteFailure_23 : decode cX4_noteFailure 23 = .ok (.aload_n 0, 1) := by decide +kernel
theorem dX4_noteFailure_24 : decode cX4_noteFailure 24 = .ok (.aload_n 0, 1) := by decide +kernel
theorem dX4_noteFailure_25 : decode cX4_noteFailure 25 = .ok (.getfield 18, 3) := by decide +kernel
theorem dX4_noteFailure_28 : decode cX4_noteFailure 28 = .ok (.iconst 1, 1) := by decide +kernel
theorem dX4_noteFailure_29 : decode cX4_noteFailure 29 = .ok (.isub, 1) := by decide +kernel
theorem dX4_noteFailure_30 : decode cX4_noteFailure 30 = .ok (.iconst 0, 1) := by decide +kernel
theorem dX4_noteFailure_31 : decode cX4_noteFailure 31 = .ok (.invokestatic 118, 3) := by decide +kernel
theorem dX4_noteFailure_34 : decode cX4_noteFailure 34 = .ok (.putfield 18, 3) := by decide +kernel
theorem dX4_noteFailure_37 : decode cX4_noteFailure 37 = .ok (.return_, 1) := by decide +kernel
theorem dX5_init_0 : decode cX5_init 0 = .ok (.aload_n 0, 1) := by decide +kernel
theorem dX5_init_1 : decode cX5_init 1 = .ok (.invokespecial 3, 3) := by decide +kernel
theorem dX5_init_4 : decode cX5_init 4 = .ok (.aload_n 0, 1) := by decide +kernel
theorem dX5_init_5 : decode cX5_init 5 = .ok (.new 9, 3) := by decide +kernel
theorem dX5_init_8 : decode cX5_init 8 = .ok (.dup, 1) := by decide +kernel
theorem dX5_init_9 : decode cX5_init 9 = .ok (.invokespecial 11, 3) := by decide +kernel
theorem dX5_init_12 : decode cX5_init 12 = .ok (.putfield 12, 3) := by decide +kernel
theorem dX5_init_15 : decode cX5_init 15 = .ok (.aload_n 0, 1) := by decide +kernel
theorem dX5_init_16 : decode cX5_init 16 = .ok (.iconst 4, 1) := by decide +kernel
theorem dX5_init_17 : decode cX5_init 17 = .ok (.newarray .int, 2) := by decide +kernel
theorem dX5_init_19 : decode cX5_init 19 = .ok (.putfield 18, 3) := by decide +kernel
theorem dX5_init_22 : decode cX5_init 22 = .ok (.return_, 1) := by decide +kernel
theorem dX5_chooseKind_0 : decode cX5_chooseKind 0 = .ok (.aload_n 0, 1) := by decide +kernel
theorem dX5_chooseKind_1 : decode cX5_chooseKind 1 = .ok (.getfield 22, 3) := by decide +kernel
theorem dX5_chooseKind_4 : decode cX5_chooseKind 4 = .ok (.ifCond .eq 37, 3) := by decide +kernel
theorem dX5_chooseKind_7 : decode cX5_chooseKind 7 = .ok (.aload_n 0, 1) := by decide +kernel
theorem dX5_chooseKind_8 : decode cX5_chooseKind 8 = .ok (.getfield 12, 3) := by decide +kernel
theorem dX5_chooseKind_11 : decode cX5_chooseKind 11 = .ok (.aload_n 1, 1) := by decide +kernel
theorem dX5_chooseKind_12 : decode cX5_chooseKind 12 = .ok (.invokevirtual 26, 3) := by decide +kernel
theorem dX5_chooseKind_15 : decode cX5_chooseKind 15 = .ok (.ifCond .eq 26, 3) := by decide +kernel
theorem dX5_chooseKind_18 : decode cX5_chooseKind 18 = .ok (.aload_n 0, 1) := by decide +kernel
theorem dX5_chooseKind_19 : decode cX5_chooseKind 19 = .ok (.getfield 12, 3) := by decide +kernel
theorem dX5_chooseKind_22 : decode cX5_chooseKind 22 = .ok (.getfield 30, 3) := by decide +kernel
theorem dX5_chooseKind_25 : decode cX5_chooseKind 25 = .ok (.aload_n 0, 1) := by decide +kernel
theorem dX5_chooseKind_26 : decode cX5_chooseKind 26 = .ok (.getfield 34, 3) := by decide +kernel
theorem dX5_chooseKind_29 : decode cX5_chooseKind 29 = .ok (.if_icmp .ne 12, 3) := by decide +kernel
theorem dX5_chooseKind_32 : decode cX5_chooseKind 32 = .ok (.aload_n 0, 1) := by decide +kernel
theorem dX5_chooseKind_33 : decode cX5_chooseKind 33 = .ok (.getfield 37, 3) := by decide +kernel
theorem dX5_chooseKind_36 : decode cX5_chooseKind 36 = .ok (.bipush 20, 2) := by decide +kernel
theorem dX5_chooseKind_38 : decode cX5_chooseKind 38 = .ok (.if_icmp .ne 11, 3) := by decide +kernel
theorem dX5_chooseKind_41 : decode cX5_chooseKind 41 = .ok (.aload_n 0, 1) := by decide +kernel
theorem dX5_chooseKind_42 : decode cX5_chooseKind 42 = .ok (.iconst 0, 1) := by decide +kernel
theorem dX5_chooseKind_43 : decode cX5_chooseKind 43 = .ok (.invokevirtual 40, 3) := by decide +kernel
theorem dX5_chooseKind_46 : decode cX5_chooseKind 46 = .ok (.goto 30, 3) := by decide +kernel
theorem dX5_chooseKind_49 : decode cX5_chooseKind 49 = .ok (.aload_n 0, 1) := by decide +kernel
theorem dX5_chooseKind_50 : decode cX5_chooseKind 50 = .ok (.getfield 12, 3) := by decide +kernel
theorem dX5_chooseKind_53 : decode cX5_chooseKind 53 = .ok (.aload_n 1, 1) := by decide +kernel
theorem dX5_chooseKind_54 : decode cX5_chooseKind 54 = .ok (.invokevirtual 44, 3) := by decide +kernel
theorem dX5_chooseKind_57 : decode cX5_chooseKind 57 = .ok (.ifCond .ne 19, 3) := by decide +kernel
theorem dX5_chooseKind_60 : decode cX5_chooseKind 60 = .ok (.aload_n 0, 1) := by decide +kernel
theorem dX5_chooseKind_61 : decode cX5_chooseKind 61 = .ok (.aload_n 0, 1) := by decide +kernel
theorem dX5_chooseKind_62 : decode cX5_chooseKind 62 = .ok (.getfield 47, 3) := by decide +kernel
theorem dX5_chooseKind_65 : decode cX5_chooseKind 65 = .ok (.ifCond .ne 7, 3) := by decide +kernel
theorem dX5_chooseKind_68 : decode cX5_chooseKind 68 = .ok (.iconst 0, 1) := by decide +kernel
theorem dX5_chooseKind_69 : decode cX5_chooseKind 69 = .ok (.goto 4, 3) := by decide +kernel
theorem dX5_chooseKind_72 : decode cX5_chooseKind 72 = .ok (.iconst 1, 1) := by decide +kernel
theorem dX5_chooseKind_73 : decode cX5_chooseKind 73 = .ok (.invokevirtual 40, 3) := by decide +kernel
theorem dX5_chooseKind_76 : decode cX5_chooseKind 76 = .ok (.aload_n 0, 1) := by decide +kernel
theorem dX5_chooseKind_77 : decode cX5_chooseKind 77 = .ok (.getfield 12, 3) := by decide +kernel
theorem dX5_chooseKind_80 : decode cX5_chooseKind 80 = .ok (.aload_n 1, 1) := by decide +kernel
theorem dX5_chooseKind_81 : decode cX5_chooseKind 81 = .ok (.aload_n 0, 1) := by decide +kernel
theorem dX5_chooseKind_82 : decode cX5_chooseKind 82 = .ok (.getfield 34, 3) := by decide +kernel
theorem dX5_chooseKind_85 : decode cX5_chooseKind 85 = .ok (.invokevirtual 50, 3) := by decide +kernel
theorem dX5_chooseKind_88 : decode cX5_chooseKind 88 = .ok (.aload_n 0, 1) := by decide +kernel
theorem dX5_chooseKind_89 : decode cX5_chooseKind 89 = .ok (.iconst 1, 1) := by decide +kernel
theorem dX5_chooseKind_90 : decode cX5_chooseKind 90 = .ok (.putfield 22, 3) := by decide +kernel
theorem dX5_chooseKind_93 : decode cX5_chooseKind 93 = .ok (.aload_n 0, 1) := by decide +kernel
theorem dX5_chooseKind_94 : decode cX5_chooseKind 94 = .ok (.getfield 47, 3) := by decide +kernel
theorem dX5_chooseKind_97 : decode cX5_chooseKind 97 = .ok (.lookupswitch 31 #[(0, 27), (1, 29)], 27) := by decide +kernel
theorem dX5_chooseKind_124 : decode cX5_chooseKind 124 = .ok (.iconst 4, 1) := by decide +kernel
theorem dX5_chooseKind_125 : decode cX5_chooseKind 125 = .ok (.ireturn, 1) := by decide +kernel
theorem dX5_chooseKind_126 : decode cX5_chooseKind 126 = .ok (.iconst 3, 1) := by decide +kernel
theorem dX5_chooseKind_127 : decode cX5_chooseKind 127 = .ok (.ireturn, 1) := by decide +kernel
theorem dX5_chooseKind_128 : decode cX5_chooseKind 128 = .ok (.aload_n 0, 1) := by decide +kernel
theorem dX5_chooseKind_129 : decode cX5_chooseKind 129 = .ok (.aload_n 1, 1) := by decide +kernel
theorem dX5_chooseKind_130 : decode cX5_chooseKind 130 = .ok (.invokevirtual 54, 3) := by decide +kernel
theorem dX5_chooseKind_133 : decode cX5_chooseKind 133 = .ok (.ireturn, 1) := by decide +kernel
theorem dX5_noteSent_0 : decode cX5_noteSent 0 = .ok (.aload_n 0, 1) := by decide +kernel
theorem dX5_noteSent_1 : decode cX5_noteSent 1 = .ok (.iload_n 1, 1) := by decide +kernel
theorem dX5_noteSent_2 : decode cX5_noteSent 2 = .ok (.iconst 4, 1) := by decide +kernel
theorem dX5_noteSent_3 : decode cX5_noteSent 3 = .ok (.if_icmp .ne 7, 3) := by decide +kernel
theorem dX5_noteSent_6 : decode cX5_noteSent 6 = .ok (.iconst 0, 1) := by decide +kernel
theorem dX5_noteSent_7 : decode cX5_noteSent 7 = .ok (.goto 9, 3) := by decide +kernel
theorem dX5_noteSent_10 : decode cX5_noteSent 10 = .ok (.aload_n 0, 1) := by decide +kernel
theorem dX5_noteSent_11 : decode cX5_noteSent 11 = .ok (.getfield 37, 3) := by decide +kernel
theorem dX5_noteSent_14 : decode cX5_noteSent 14 = .ok (.iconst 1, 1) := by decide +kernel
theorem dX5_noteSent_15 : decode cX5_noteSent 15 = .ok (.iadd, 1) := by decide +kernel
theorem dX5_noteSent_16 : decode cX5_noteSent 16 = .ok (.putfield 37, 3) := by decide +kernel
theorem dX5_noteSent_19 : decode cX5_noteSent 19 = .ok (.aload_n 0, 1) := by decide +kernel
theorem dX5_noteSent_20 : decode cX5_noteSent 20 = .ok (.getfield 18, 3) := by decide +kernel
theorem dX5_noteSent_23 : decode cX5_noteSent 23 = .ok (.aload_n 0, 1) := by decide +kernel
theorem dX5_noteSent_24 : decode cX5_noteSent 24 = .ok (.getfield 58, 3) := by decide +kernel
theorem dX5_noteSent_27 : decode cX5_noteSent 27 = .ok (.iconst 3, 1) := by decide +kernel
theorem dX5_noteSent_28 : decode cX5_noteSent 28 = .ok (.iand, 1) := by decide +kernel
theorem dX5_noteSent_29 : decode cX5_noteSent 29 = .ok (.iload_n 2, 1) := by decide +kernel
theorem dX5_noteSent_30 : decode cX5_noteSent 30 = .ok (.iastore, 1) := by decide +kernel
theorem dX5_noteSent_31 : decode cX5_noteSent 31 = .ok (.aload_n 0, 1) := by decide +kernel
theorem dX5_noteSent_32 : decode cX5_noteSent 32 = .ok (.dup, 1) := by decide +kernel
theorem dX5_noteSent_33 : decode cX5_noteSent 33 = .ok (.getfield 58, 3) := by decide +kernel
theorem dX5_noteSent_36 : decode cX5_noteSent 36 = .ok (.iconst 1, 1) := by decide +kernel
theorem dX5_noteSent_37 : decode cX5_noteSent 37 = .ok (.iadd, 1) := by decide +kernel
theorem dX5_noteSent_38 : decode cX5_noteSent 38 = .ok (.putfield 58, 3) := by decide +kernel
theorem dX5_noteSent_41 : decode cX5_noteSent 41 = .ok (.aload_n 0, 1) := by decide +kernel
theorem dX5_noteSent_42 : decode cX5_noteSent 42 = .ok (.dup, 1) := by decide +kernel
theorem dX5_noteSent_43 : decode cX5_noteSent 43 = .ok (.getfield 61, 3) := by decide +kernel
theorem dX5_noteSent_46 : decode cX5_noteSent 46 = .ok (.iconst 1, 1) := by decide +kernel
theorem dX5_noteSent_47 : decode cX5_noteSent 47 = .ok (.iadd, 1) := by decide +kernel
theorem dX5_noteSent_48 : decode cX5_noteSent 48 = .ok (.putfield 61, 3) := by decide +kernel
theorem dX5_noteSent_51 : decode cX5_noteSent 51 = .ok (.aload_n 0, 1) := by decide +kernel
theorem dX5_noteSent_52 : decode cX5_noteSent 52 = .ok (.getfield 47, 3) := by decide +kernel
theorem dX5_noteSent_55 : decode cX5_noteSent 55 = .ok (.iconst 2, 1) := by decide +kernel
theorem dX5_noteSent_56 : decode cX5_noteSent 56 = .ok (.if_icmp .eq 16, 3) := by decide +kernel
theorem dX5_noteSent_59 : decode cX5_noteSent 59 = .ok (.aload_n 0, 1) := by decide +kernel
theorem dX5_noteSent_60 : decode cX5_noteSent 60 = .ok (.getfield 61, 3) := by decide +kernel
theorem dX5_noteSent_63 : decode cX5_noteSent 63 = .ok (.iconst 3, 1) := by decide +kernel
theorem dX5_noteSent_64 : decode cX5_noteSent 64 = .ok (.if_icmp .ne 8, 3) := by decide +kernel
theorem dX5_noteSent_67 : decode cX5_noteSent 67 = .ok (.aload_n 0, 1) := by decide +kernel
theorem dX5_noteSent_68 : decode cX5_noteSent 68 = .ok (.iconst 2, 1) := by decide +kernel
theorem dX5_noteSent_69 : decode cX5_noteSent 69 = .ok (.invokevirtual 40, 3) := by decide +kernel
theorem dX5_noteSent_72 : decode cX5_noteSent 72 = .ok (.return_, 1) := by decide +kernel
theorem dX5_enter_0 : decode cX5_enter 0 = .ok (.aload_n 0, 1) := by decide +kernel
theorem dX5_enter_1 : decode cX5_enter 1 = .ok (.iload_n 1, 1) := by decide +kernel
theorem dX5_enter_2 : decode cX5_enter 2 = .ok (.putfield 47, 3) := by decide +kernel
theorem dX5_enter_5 : decode cX5_enter 5 = .ok (.aload_n 0, 1) := by decide +kernel
theorem dX5_enter_6 : decode cX5_enter 6 = .ok (.iconst 0, 1) := by decide +kernel
theorem dX5_enter_7 : decode cX5_enter 7 = .ok (.putfield 61, 3) := by decide +kernel
theorem dX5_enter_10 : decode cX5_enter 10 = .ok (.return_, 1) := by decide +kernel
theorem dX5_smallestKind_0 : decode cX5_smallestKind 0 = .ok (.aload_n 1, 1) := by decide +kernel
theorem dX5_smallestKind_1 : decode cX5_smallestKind 1 = .ok (.getfield 64, 3) := by decide +kernel
theorem dX5_smallestKind_4 : decode cX5_smallestKind 4 = .ok (.ifCond .ne 17, 3) := by decide +kernel
theorem dX5_smallestKind_7 : decode cX5_smallestKind 7 = .ok (.aload_n 0, 1) := by decide +kernel
theorem dX5_smallestKind_8 : decode cX5_smallestKind 8 = .ok (.iconst 0, 1) := by decide +kernel
theorem dX5_smallestKind_9 : decode cX5_smallestKind 9 = .ok (.aload_n 1, 1) := by decide +kernel
theorem dX5_smallestKind_10 : decode cX5_smallestKind 10 = .ok (.getfield 69, 3) := by decide +kernel
theorem dX5_smallestKind_13 : decode cX5_smallestKind 13 = .ok (.invokevirtual 72, 3) := by decide +kernel
theorem dX5_smallestKind_16 : decode cX5_smallestKind 16 = .ok (.ifCond .eq 5, 3) := by decide +kernel
theorem dX5_smallestKind_19 : decode cX5_smallestKind 19 = .ok (.iconst 0, 1) := by decide +kernel
theorem dX5_smallestKind_20 : decode cX5_smallestKind 20 = .ok (.ireturn, 1) := by decide +kernel
theorem dX5_smallestKind_21 : decode cX5_smallestKind 21 = .ok (.aload_n 0, 1) := by decide +kernel
theorem dX5_smallestKind_22 : decode cX5_smallestKind 22 = .ok (.iconst 1, 1) := by decide +kernel
theorem dX5_smallestKind_23 : decode cX5_smallestKind 23 = .ok (.aload_n 1, 1) := by decide +kernel
theorem dX5_smallestKind_24 : decode cX5_smallestKind 24 = .ok (.getfield 69, 3) := by decide +kernel
theorem dX5_smallestKind_27 : decode cX5_smallestKind 27 = .ok (.invokevirtual 72, 3) := by decide +kernel
theorem dX5_smallestKind_30 : decode cX5_smallestKind 30 = .ok (.ifCond .eq 5, 3) := by decide +kernel
theorem dX5_smallestKind_33 : decode cX5_smallestKind 33 = .ok (.iconst 1, 1) := by decide +kernel
theorem dX5_smallestKind_34 : decode cX5_smallestKind 34 = .ok (.ireturn, 1) := by decide +kernel
theorem dX5_smallestKind_35 : decode cX5_smallestKind 35 = .ok (.aload_n 0, 1) := by decide +kernel
theorem dX5_smallestKind_36 : decode cX5_smallestKind 36 = .ok (.iconst 2, 1) := by decide +kernel
theorem dX5_smallestKind_37 : decode cX5_smallestKind 37 = .ok (.aload_n 1, 1) := by decide +kernel
theorem dX5_smallestKind_38 : decode cX5_smallestKind 38 = .ok (.getfield 69, 3) := by decide +kernel
theorem dX5_smallestKind_41 : decode cX5_smallestKind 41 = .ok (.invokevirtual 72, 3) := by decide +kernel
theorem dX5_smallestKind_44 : decode cX5_smallestKind 44 = .ok (.ifCond .eq 7, 3) := by decide +kernel
theorem dX5_smallestKind_47 : decode cX5_smallestKind 47 = .ok (.iconst 2, 1) := by decide +kernel
theorem dX5_smallestKind_48 : decode cX5_smallestKind 48 = .ok (.goto 4, 3) := by decide +kernel
theorem dX5_smallestKind_51 : decode cX5_smallestKind 51 = .ok (.iconst 3, 1) := by decide +kernel
theorem dX5_smallestKind_52 : decode cX5_smallestKind 52 = .ok (.ireturn, 1) := by decide +kernel
theorem dX5_isEnough_0 : decode cX5_isEnough 0 = .ok (.aload_n 0, 1) := by decide +kernel
theorem dX5_isEnough_1 : decode cX5_isEnough 1 = .ok (.getfield 58, 3) := by decide +kernel
theorem dX5_isEnough_4 : decode cX5_isEnough 4 = .ok (.iconst 4, 1) := by decide +kernel
theorem dX5_isEnough_5 : decode cX5_isEnough 5 = .ok (.invokestatic 76, 3) := by decide +kernel
theorem dX5_isEnough_8 : decode cX5_isEnough 8 = .ok (.istore_n 3, 1) := by decide +kernel
theorem dX5_isEnough_9 : decode cX5_isEnough 9 = .ok (.iconst 0, 1) := by decide +kernel
theorem dX5_isEnough_10 : decode cX5_isEnough 10 = .ok (.istore 4, 2) := by decide +kernel
theorem dX5_isEnough_12 : decode cX5_isEnough 12 = .ok (.iload 4, 2) := by decide +kernel
theorem dX5_isEnough_14 : decode cX5_isEnough 14 = .ok (.iload_n 3, 1) := by decide +kernel
theorem dX5_isEnough_15 : decode cX5_isEnough 15 = .ok (.if_icmp .ge 41, 3) := by decide +kernel
theorem dX5_isEnough_18 : decode cX5_isEnough 18 = .ok (.iload_n 2, 1) := by decide +kernel
theorem dX5_isEnough_19 : decode cX5_isEnough 19 = .ok (.aload_n 0, 1) := by decide +kernel
theorem dX5_isEnough_20 : decode cX5_isEnough 20 = .ok (.getfield 18, 3) := by decide +kernel
theorem dX5_isEnough_23 : decode cX5_isEnough 23 = .ok (.iload 4, 2) := by decide +kernel
theorem dX5_isEnough_25 : decode cX5_isEnough 25 = .ok (.iaload, 1) := by decide +kernel
theorem dX5_isEnough_26 : decode cX5_isEnough 26 = .ok (.isub, 1) := by decide +kernel
theorem dX5_isEnough_27 : decode cX5_isEnough 27 = .ok (.getstatic 82, 3) := by decide +kernel
theorem dX5_isEnough_30 : decode cX5_isEnough 30 = .ok (.iload_n 1, 1) := by decide +kernel
theorem dX5_isEnough_31 : decode cX5_isEnough 31 = .ok (.iaload, 1) := by decide +kernel
theorem dX5_isEnough_32 : decode cX5_isEnough 32 = .ok (.iadd, 1) := by decide +kernel
theorem dX5_isEnough_33 : decode cX5_isEnough 33 = .ok (.ldc 85, 2) := by decide +kernel
theorem dX5_isEnough_35 : decode cX5_isEnough 35 = .ok (.iand, 1) := by decide +kernel
theorem dX5_isEnough_36 : decode cX5_isEnough 36 = .ok (.istore 5, 2) := by decide +kernel
theorem dX5_isEnough_38 : decode cX5_isEnough 38 = .ok (.iload 5, 2) := by decide +kernel
theorem dX5_isEnough_40 : decode cX5_isEnough 40 = .ok (.getstatic 86, 3) := by decide +kernel
theorem dX5_isEnough_43 : decode cX5_isEnough 43 = .ok (.iload_n 1, 1) := by decide +kernel
theorem dX5_isEnough_44 : decode cX5_isEnough 44 = .ok (.iaload, 1) := by decide +kernel
theorem dX5_isEnough_45 : decode cX5_isEnough 45 = .ok (.if_icmp .le 5, 3) := by decide +kernel
theorem dX5_isEnough_48 : decode cX5_isEnough 48 = .ok (.iconst 0, 1) := by decide +kernel
theorem dX5_isEnough_49 : decode cX5_isEnough 49 = .ok (.ireturn, 1) := by decide +kernel
theorem dX5_isEnough_50 : decode cX5_isEnough 50 = .ok (.iinc 4 1, 3) := by decide +kernel
theorem dX5_isEnough_53 : decode cX5_isEnough 53 = .ok (.goto (-41), 3) := by decide +kernel
theorem dX5_isEnough_56 : decode cX5_isEnough 56 = .ok (.iconst 1, 1) := by decide +kernel
theorem dX5_isEnough_57 : decode cX5_isEnough 57 = .ok (.ireturn, 1) := by decide +kernel
theorem dX6_init_0 : decode cX6_init 0 = .ok (.aload_n 0, 1) := by decide +kernel
theorem dX6_init_1 : decode cX6_init 1 = .ok (.invokespecial 1, 3) := by decide +kernel
theorem dX6_init_4 : decode cX6_init 4 = .ok (.aload_n 0, 1) := by decide +kernel
theorem dX6_init_5 : decode cX6_init 5 = .ok (.new 7, 3) := by decide +kernel
theorem dX6_init_8 : decode cX6_init 8 = .ok (.dup, 1) := by decide +kernel
theorem dX6_init_9 : decode cX6_init 9 = .ok (.invokespecial 9, 3) := by decide +kernel
theorem dX6_init_12 : decode cX6_init 12 = .ok (.putfield 10, 3) := by decide +kernel
theorem dX6_init_15 : decode cX6_init 15 = .ok (.aload_n 0, 1) := by decide +kernel
theorem dX6_init_16 : decode cX6_init 16 = .ok (.new 16, 3) := by decide +kernel
theorem dX6_init_19 : decode cX6_init 19 = .ok (.dup, 1) := by decide +kernel
theorem dX6_init_20 : decode cX6_init 20 = .ok (.invokespecial 18, 3) := by decide +kernel
theorem dX6_init_23 : decode cX6_init 23 = .ok (.putfield 19, 3) := by decide +kernel
theorem dX6_init_26 : decode cX6_init 26 = .ok (.aload_n 0, 1) := by decide +kernel
theorem dX6_init_27 : decode cX6_init 27 = .ok (.iconst 4, 1) := by decide +kernel
theorem dX6_init_28 : decode cX6_init 28 = .ok (.anewarray 23, 3) := by decide +kernel
theorem dX6_init_31 : decode cX6_init 31 = .ok (.putfield 25, 3) := by decide +kernel
theorem dX6_init_34 : decode cX6_init 34 = .ok (.aload_n 0, 1) := by decide +kernel
theorem dX6_init_35 : decode cX6_init 35 = .ok (.iconst 4, 1) := by decide +kernel
theorem dX6_init_36 : decode cX6_init 36 = .ok (.anewarray 29, 3) := by decide +kernel
theorem dX6_init_39 : decode cX6_init 39 = .ok (.putfield 31, 3) := by decide +kernel
theorem dX6_init_42 : decode cX6_init 42 = .ok (.aload_n 0, 1) := by decide +kernel
theorem dX6_init_43 : decode cX6_init 43 = .ok (.bipush 11, 2) := by decide +kernel
theorem dX6_init_45 : decode cX6_init 45 = .ok (.newarray .int, 2) := by decide +kernel
theorem dX6_init_47 : decode cX6_init 47 = .ok (.putfield 35, 3) := by decide +kernel
theorem dX6_init_50 : decode cX6_init 50 = .ok (.aload_n 0, 1) := by decide +kernel
theorem dX6_init_51 : decode cX6_init 51 = .ok (.new 7, 3) := by decide +kernel
theorem dX6_init_54 : decode cX6_init 54 = .ok (.dup, 1) := by decide +kernel
theorem dX6_init_55 : decode cX6_init 55 = .ok (.invokespecial 9, 3) := by decide +kernel
theorem dX6_init_58 : decode cX6_init 58 = .ok (.putfield 39, 3) := by decide +kernel
theorem dX6_init_61 : decode cX6_init 61 = .ok (.aload_n 0, 1) := by decide +kernel
theorem dX6_init_62 : decode cX6_init 62 = .ok (.new 7, 3) := by decide +kernel
theorem dX6_init_65 : decode cX6_init 65 = .ok (.dup, 1) := by decide +kernel
theorem dX6_init_66 : decode cX6_init 66 = .ok (.invokespecial 9, 3) := by decide +kernel
theorem dX6_init_69 : decode cX6_init 69 = .ok (.putfield 42, 3) := by decide +kernel
theorem dX6_init_72 : decode cX6_init 72 = .ok (.iconst 0, 1) := by decide +kernel
theorem dX6_init_73 : decode cX6_init 73 = .ok (.istore_n 1, 1) := by decide +kernel
theorem dX6_init_74 : decode cX6_init 74 = .ok (.iload_n 1, 1) := by decide +kernel
theorem dX6_init_75 : decode cX6_init 75 = .ok (.iconst 4, 1) := by decide +kernel
theorem dX6_init_76 : decode cX6_init 76 = .ok (.if_icmp .ge 35, 3) := by decide +kernel
theorem dX6_init_79 : decode cX6_init 79 = .ok (.aload_n 0, 1) := by decide +kernel
theorem dX6_init_80 : decode cX6_init 80 = .ok (.getfield 25, 3) := by decide +kernel
theorem dX6_init_83 : decode cX6_init 83 = .ok (.iload_n 1, 1) := by decide +kernel
theorem dX6_init_84 : decode cX6_init 84 = .ok (.new 23, 3) := by decide +kernel
theorem dX6_init_87 : decode cX6_init 87 = .ok (.dup, 1) := by decide +kernel
theorem dX6_init_88 : decode cX6_init 88 = .ok (.invokespecial 45, 3) := by decide +kernel
theorem dX6_init_91 : decode cX6_init 91 = .ok (.aastore, 1) := by decide +kernel
theorem dX6_init_92 : decode cX6_init 92 = .ok (.aload_n 0, 1) := by decide +kernel
theorem dX6_init_93 : decode cX6_init 93 = .ok (.getfield 31, 3) := by decide +kernel
theorem dX6_init_96 : decode cX6_init 96 = .ok (.iload_n 1, 1) := by decide +kernel
theorem dX6_init_97 : decode cX6_init 97 = .ok (.new 29, 3) := by decide +kernel
theorem dX6_init_100 : decode cX6_init 100 = .ok (.dup, 1) := by decide +kernel
theorem dX6_init_101 : decode cX6_init 101 = .ok (.invokespecial 46, 3) := by decide +kernel
theorem dX6_init_104 : decode cX6_init 104 = .ok (.aastore, 1) := by decide +kernel
theorem dX6_init_105 : decode cX6_init 105 = .ok (.iinc 1 1, 3) := by decide +kernel
theorem dX6_init_108 : decode cX6_init 108 = .ok (.goto (-34), 3) := by decide +kernel
theorem dX6_init_111 : decode cX6_init 111 = .ok (.return_, 1) := by decide +kernel
theorem dX6_stride_0 : decode cX6_stride 0 = .ok (.iload_n 1, 1) := by decide +kernel
theorem dX6_stride_1 : decode cX6_stride 1 = .ok (.invokestatic 47, 3) := by decide +kernel
theorem dX6_stride_4 : decode cX6_stride 4 = .ok (.ifCond .eq 11, 3) := by decide +kernel
theorem dX6_stride_7 : decode cX6_stride 7 = .ok (.new 51, 3) := by decide +kernel
theorem dX6_stride_10 : decode cX6_stride 10 = .ok (.dup, 1) := by decide +kernel
theorem dX6_stride_11 : decode cX6_stride 11 = .ok (.invokespecial 53, 3) := by decide +kernel
theorem dX6_stride_14 : decode cX6_stride 14 = .ok (.athrow, 1) := by decide +kernel
theorem dX6_stride_15 : decode cX6_stride 15 = .ok (.iload_n 2, 1) := by decide +kernel
theorem dX6_stride_16 : decode cX6_stride 16 = .ok (.invokestatic 54, 3) := by decide +kernel
theorem dX6_stride_19 : decode cX6_stride 19 = .ok (.ifCond .eq 11, 3) := by decide +kernel
theorem dX6_stride_22 : decode cX6_stride 22 = .ok (.new 57, 3) := by decide +kernel
theorem dX6_stride_25 : decode cX6_stride 25 = .ok (.dup, 1) := by decide +kernel
theorem dX6_stride_26 : decode cX6_stride 26 = .ok (.invokespecial 59, 3) := by decide +kernel
theorem dX6_stride_29 : decode cX6_stride 29 = .ok (.athrow, 1) := by decide +kernel
theorem dX6_stride_30 : decode cX6_stride 30 = .ok (.aload_n 0, 1) := by decide +kernel
theorem dX6_stride_31 : decode cX6_stride 31 = .ok (.getfield 25, 3) := by decide +kernel
theorem dX6_stride_34 : decode cX6_stride 34 = .ok (.iload_n 1, 1) := by decide +kernel
theorem dX6_stride_35 : decode cX6_stride 35 = .ok (.aaload, 1) := by decide +kernel
theorem dX6_stride_36 : decode cX6_stride 36 = .ok (.iload_n 2, 1) := by decide +kernel
theorem dX6_stride_37 : decode cX6_stride 37 = .ok (.putfield 60, 3) := by decide +kernel
theorem dX6_stride_40 : decode cX6_stride 40 = .ok (.return_, 1) := by decide +kernel
theorem dX6_head_0 : decode cX6_head 0 = .ok (.iload_n 1, 1) := by decide +kernel
theorem dX6_head_1 : decode cX6_head 1 = .ok (.invokestatic 54, 3) := by decide +kernel
theorem dX6_head_4 : decode cX6_head 4 = .ok (.ifCond .ne 13, 3) := by decide +kernel
theorem dX6_head_7 : decode cX6_head 7 = .ok (.iload_n 2, 1) := by decide +kernel
theorem dX6_head_8 : decode cX6_head 8 = .ok (.ifCond .lt 9, 3) := by decide +kernel
theorem dX6_head_11 : decode cX6_head 11 = .ok (.iload_n 2, 1) := by decide +kernel
theorem dX6_head_12 : decode cX6_head 12 = .ok (.bipush 127, 2) := by decide +kernel
theorem dX6_head_14 : decode cX6_head 14 = .ok (.if_icmp .le 11, 3) := by decide +kernel
theorem dX6_head_17 : decode cX6_head 17 = .ok (.new 57, 3) := by decide +kernel
theorem dX6_head_20 : decode cX6_head 20 = .ok (.dup, 1) := by decide +kernel
theorem dX6_head_21 : decode cX6_head 21 = .ok (.invokespecial 59, 3) := by decide +kernel
theorem dX6_head_24 : decode cX6_head 24 = .ok (.athrow, 1) := by decide +kernel
theorem dX6_head_25 : decode cX6_head 25 = .ok (.aload_n 0, 1) := by decide +kernel
theorem dX6_head_26 : decode cX6_head 26 = .ok (.getfield 10, 3) := by decide +kernel
theorem dX6_head_29 : decode cX6_head 29 = .ok (.iload_n 1, 1) := by decide +kernel
theorem dX6_head_30 : decode cX6_head 30 = .ok (.putfield 64, 3) := by decide +kernel
theorem dX6_head_33 : decode cX6_head 33 = .ok (.aload_n 0, 1) := by decide +kernel
theorem dX6_head_34 : decode cX6_head 34 = .ok (.getfield 10, 3) := by decide +kernel
theorem dX6_head_37 : decode cX6_head 37 = .ok (.iload_n 2, 1) := by decide +kernel
theorem dX6_head_38 : decode cX6_head 38 = .ok (.putfield 67, 3) := by decide +kernel
theorem dX6_head_41 : decode cX6_head 41 = .ok (.aload_n 0, 1) := by decide +kernel
theorem dX6_head_42 : decode cX6_head 42 = .ok (.getfield 10, 3) := by decide +kernel
theorem dX6_head_45 : decode cX6_head 45 = .ok (.iload_n 3, 1) := by decide +kernel
theorem dX6_head_46 : decode cX6_head 46 = .ok (.putfield 70, 3) := by decide +kernel
theorem dX6_head_49 : decode cX6_head 49 = .ok (.return_, 1) := by decide +kernel
theorem dX6_send_0 : decode cX6_send 0 = .ok (.iload_n 1, 1) := by decide +kernel
theorem dX6_send_1 : decode cX6_send 1 = .ok (.invokestatic 47, 3) := by decide +kernel
theorem dX6_send_4 : decode cX6_send 4 = .ok (.ifCond .eq 11, 3) := by decide +kernel
theorem dX6_send_7 : decode cX6_send 7 = .ok (.new 51, 3) := by decide +kernel
theorem dX6_send_10 : decode cX6_send 10 = .ok (.dup, 1) := by decide +kernel
theorem dX6_send_11 : decode cX6_send 11 = .ok (.invokespecial 53, 3) := by decide +kernel
theorem dX6_send_14 : decode cX6_send 14 = .ok (.athrow, 1) := by decide +kernel
theorem dX6_send_15 : decode cX6_send 15 = .ok (.iload_n 2, 1) := by decide +kernel
theorem dX6_send_16 : decode cX6_send 16 = .ok (.invokestatic 54, 3) := by decide +kernel
theorem dX6_send_19 : decode cX6_send 19 = .ok (.ifCond .ne 11, 3) := by decide +kernel
theorem dX6_send_22 : decode cX6_send 22 = .ok (.iload 4, 2) := by decide +kernel
theorem dX6_send_24 : decode cX6_send 24 = .ok (.invokestatic 54, 3) := by decide +kernel
theorem dX6_send_27 : decode cX6_send 27 = .ok (.ifCond .eq 11, 3) := by decide +kernel
theorem dX6_send_30 : decode cX6_send 30 = .ok (.new 57, 3) := by decide +kernel
theorem dX6_send_33 : decode cX6_send 33 = .ok (.dup, 1) := by decide +kernel
theorem dX6_send_34 : decode cX6_send 34 = .ok (.invokespecial 59, 3) := by decide +kernel
theorem dX6_send_37 : decode cX6_send 37 = .ok (.athrow, 1) := by decide +kernel
theorem dX6_send_38 : decode cX6_send 38 = .ok (.aload_n 0, 1) := by decide +kernel
theorem dX6_send_39 : decode cX6_send 39 = .ok (.getfield 10, 3) := by decide +kernel
theorem dX6_send_42 : decode cX6_send 42 = .ok (.iload_n 2, 1) := by decide +kernel
theorem dX6_send_43 : decode cX6_send 43 = .ok (.putfield 74, 3) := by decide +kernel
theorem dX6_send_46 : decode cX6_send 46 = .ok (.aload_n 0, 1) := by decide +kernel
theorem dX6_send_47 : decode cX6_send 47 = .ok (.getfield 10, 3) := by decide +kernel
theorem dX6_send_50 : decode cX6_send 50 = .ok (.iload_n 3, 1) := by decide +kernel
theorem dX6_send_51 : decode cX6_send 51 = .ok (.putfield 77, 3) := by decide +kernel
theorem dX6_send_54 : decode cX6_send 54 = .ok (.aload_n 0, 1) := by decide +kernel
theorem dX6_send_55 : decode cX6_send 55 = .ok (.getfield 10, 3) := by decide +kernel
theorem dX6_send_58 : decode cX6_send 58 = .ok (.iload 4, 2) := by decide +kernel
theorem dX6_send_60 : decode cX6_send 60 = .ok (.putfield 80, 3) := by decide +kernel
theorem dX6_send_63 : decode cX6_send 63 = .ok (.aload_n 0, 1) := by decide +kernel
theorem dX6_send_64 : decode cX6_send 64 = .ok (.getfield 25, 3) := by decide +kernel
theorem dX6_send_67 : decode cX6_send 67 = .ok (.iload_n 1, 1) := by decide +kernel
theorem dX6_send_68 : decode cX6_send 68 = .ok (.aaload, 1) := by decide +kernel
theorem dX6_send_69 : decode cX6_send 69 = .ok (.astore 5, 2) := by decide +kernel
theorem dX6_send_71 : decode cX6_send 71 = .ok (.aload 5, 2) := by decide +kernel
theorem dX6_send_73 : decode cX6_send 73 = .ok (.aload_n 0, 1) := by decide +kernel
theorem dX6_send_74 : decode cX6_send 74 = .ok (.getfield 10, 3) := by decide +kernel
theorem dX6_send_77 : decode cX6_send 77 = .ok (.invokevirtual 83, 3) := by decide +kernel
theorem dX6_send_80 : decode cX6_send 80 = .ok (.istore 6, 2) := by decide +kernel
theorem dX6_send_82 : decode cX6_send 82 = .ok (.aload_n 0, 1) := by decide +kernel
theorem dX6_send_83 : decode cX6_send 83 = .ok (.getfield 19, 3) := by decide +kernel
theorem dX6_send_86 : decode cX6_send 86 = .ok (.invokevirtual 87, 3) := by decide +kernel
theorem dX6_send_89 : decode cX6_send 89 = .ok (.astore 7, 2) := by decide +kernel
theorem dX6_send_91 : decode cX6_send 91 = .ok (.aload 7, 2) := by decide +kernel
theorem dX6_send_93 : decode cX6_send 93 = .ok (.iload_n 1, 1) := by decide +kernel
theorem dX6_send_94 : decode cX6_send 94 = .ok (.iload 6, 2) := by decide +kernel
theorem dX6_send_96 : decode cX6_send 96 = .ok (.aload_n 0, 1) := by decide +kernel
theorem dX6_send_97 : decode cX6_send 97 = .ok (.getfield 10, 3) := by decide +kernel
theorem dX6_send_100 : decode cX6_send 100 = .ok (.aload 5, 2) := by decide +kernel
theorem dX6_send_102 : decode cX6_send 102 = .ok (.getfield 60, 3) := by decide +kernel
theorem dX6_send_105 : decode cX6_send 105 = .ok (.invokevirtual 91, 3) := by decide +kernel
theorem dX6_send_108 : decode cX6_send 108 = .ok (.aload 5, 2) := by decide +kernel
theorem dX6_send_110 : decode cX6_send 110 = .ok (.iload 6, 2) := by decide +kernel
theorem dX6_send_112 : decode cX6_send 112 = .ok (.iload_n 2, 1) := by decide +kernel
theorem dX6_send_113 : decode cX6_send 113 = .ok (.invokevirtual 97, 3) := by decide +kernel
theorem dX6_send_116 : decode cX6_send 116 = .ok (.aload_n 0, 1) := by decide +kernel
theorem dX6_send_117 : decode cX6_send 117 = .ok (.getfield 35, 3) := by decide +kernel
theorem dX6_send_120 : decode cX6_send 120 = .ok (.iload 6, 2) := by decide +kernel
theorem dX6_send_122 : decode cX6_send 122 = .ok (.dup2, 1) := by decide +kernel
theorem dX6_send_123 : decode cX6_send 123 = .ok (.iaload, 1) := by decide +kernel
theorem dX6_send_124 : decode cX6_send 124 = .ok (.iconst 1, 1) := by decide +kernel
theorem dX6_send_125 : decode cX6_send 125 = .ok (.iadd, 1) := by decide +kernel
theorem dX6_send_126 : decode cX6_send 126 = .ok (.iastore, 1) := by decide +kernel
theorem dX6_send_127 : decode cX6_send 127 = .ok (.aload_n 0, 1) := by decide +kernel
theorem dX6_send_128 : decode cX6_send 128 = .ok (.getfield 35, 3) := by decide +kernel
theorem dX6_send_131 : decode cX6_send 131 = .ok (.iconst 5, 1) := by decide +kernel
theorem dX6_send_132 : decode cX6_send 132 = .ok (.dup2, 1) := by decide +kernel
theorem dX6_send_133 : decode cX6_send 133 = .ok (.iaload, 1) := by decide +kernel
theorem dX6_send_134 : decode cX6_send 134 = .ok (.aload 7, 2) := by decide +kernel
theorem dX6_send_136 : decode cX6_send 136 = .ok (.getfield 101, 3) := by decide +kernel
theorem dX6_send_139 : decode cX6_send 139 = .ok (.iadd, 1) := by decide +kernel
theorem dX6_send_140 : decode cX6_send 140 = .ok (.iastore, 1) := by decide +kernel
theorem dX6_send_141 : decode cX6_send 141 = .ok (.aload_n 0, 1) := by decide +kernel
theorem dX6_send_142 : decode cX6_send 142 = .ok (.getfield 19, 3) := by decide +kernel
theorem dX6_send_145 : decode cX6_send 145 = .ok (.invokevirtual 104, 3) := by decide +kernel
theorem dX6_send_148 : decode cX6_send 148 = .ok (.ifCond .eq 8, 3) := by decide +kernel
theorem dX6_send_151 : decode cX6_send 151 = .ok (.iload 6, 2) := by decide +kernel
theorem dX6_send_153 : decode cX6_send 153 = .ok (.goto 8, 3) := by decide +kernel
theorem dX6_send_156 : decode cX6_send 156 = .ok (.iload 6, 2) := by decide +kernel
theorem dX6_send_158 : decode cX6_send 158 = .ok (.bipush 8, 2) := by decide +kernel
theorem dX6_send_160 : decode cX6_send 160 = .ok (.iadd, 1) := by decide +kernel
theorem dX6_send_161 : decode cX6_send 161 = .ok (.ireturn, 1) := by decide +kernel
theorem dX6_line_0 : decode cX6_line 0 = .ok (.aload_n 0, 1) := by decide +kernel
theorem dX6_line_1 : decode cX6_line 1 = .ok (.getfield 19, 3) := by decide +kernel
theorem dX6_line_4 : decode cX6_line 4 = .ok (.getfield 108, 3) := by decide +kernel
theorem dX6_line_7 : decode cX6_line 7 = .ok (.ireturn, 1) := by decide +kernel
theorem dX6_size_0 : decode cX6_size 0 = .ok (.aload_n 0, 1) := by decide +kernel
theorem dX6_size_1 : decode cX6_size 1 = .ok (.iload_n 1, 1) := by decide +kernel
theorem dX6_size_2 : decode cX6_size 2 = .ok (.invokevirtual 111, 3) := by decide +kernel
theorem dX6_size_5 : decode cX6_size 5 = .ok (.ifCond .eq 11, 3) := by decide +kernel
theorem dX6_size_8 : decode cX6_size 8 = .ok (.new 51, 3) := by decide +kernel
theorem dX6_size_11 : decode cX6_size 11 = .ok (.dup, 1) := by decide +kernel
theorem dX6_size_12 : decode cX6_size 12 = .ok (.invokespecial 53, 3) := by decide +kernel
theorem dX6_size_15 : decode cX6_size 15 = .ok (.athrow, 1) := by decide +kernel
theorem dX6_size_16 : decode cX6_size 16 = .ok (.aload_n 0, 1) := by decide +kernel
theorem dX6_size_17 : decode cX6_size 17 = .ok (.getfield 19, 3) := by decide +kernel
theorem dX6_size_20 : decode cX6_size 20 = .ok (.getfield 114, 3) := by decide +kernel
theorem dX6_size_23 : decode cX6_size 23 = .ok (.iload_n 1, 1) := by decide +kernel
theorem dX6_size_24 : decode cX6_size 24 = .ok (.aaload, 1) := by decide +kernel
theorem dX6_size_25 : decode cX6_size 25 = .ok (.getfield 101, 3) := by decide +kernel
theorem dX6_size_28 : decode cX6_size 28 = .ok (.ireturn, 1) := by decide +kernel
theorem dX6_byteAt_0 : decode cX6_byteAt 0 = .ok (.aload_n 0, 1) := by decide +kernel
theorem dX6_byteAt_1 : decode cX6_byteAt 1 = .ok (.iload_n 1, 1) := by decide +kernel
theorem dX6_byteAt_2 : decode cX6_byteAt 2 = .ok (.invokevirtual 111, 3) := by decide +kernel
theorem dX6_byteAt_5 : decode cX6_byteAt 5 = .ok (.ifCond .ne 12, 3) := by decide +kernel
theorem dX6_byteAt_8 : decode cX6_byteAt 8 = .ok (.aload_n 0, 1) := by decide +kernel
theorem dX6_byteAt_9 : decode cX6_byteAt 9 = .ok (.iload_n 1, 1) := by decide +kernel
theorem dX6_byteAt_10 : decode cX6_byteAt 10 = .ok (.iload_n 2, 1) := by decide +kernel
theorem dX6_byteAt_11 : decode cX6_byteAt 11 = .ok (.invokevirtual 118, 3) := by decide +kernel
theorem dX6_byteAt_14 : decode cX6_byteAt 14 = .ok (.ifCond .eq 11, 3) := by decide +kernel
theorem dX6_byteAt_17 : decode cX6_byteAt 17 = .ok (.new 51, 3) := by decide +kernel
theorem dX6_byteAt_20 : decode cX6_byteAt 20 = .ok (.dup, 1) := by decide +kernel
theorem dX6_byteAt_21 : decode cX6_byteAt 21 = .ok (.invokespecial 53, 3) := by decide +kernel
theorem dX6_byteAt_24 : decode cX6_byteAt 24 = .ok (.athrow, 1) := by decide +kernel
theorem dX6_byteAt_25 : decode cX6_byteAt 25 = .ok (.aload_n 0, 1) := by decide +kernel
theorem dX6_byteAt_26 : decode cX6_byteAt 26 = .ok (.getfield 19, 3) := by decide +kernel
theorem dX6_byteAt_29 : decode cX6_byteAt 29 = .ok (.getfield 114, 3) := by decide +kernel
theorem dX6_byteAt_32 : decode cX6_byteAt 32 = .ok (.iload_n 1, 1) := by decide +kernel
theorem dX6_byteAt_33 : decode cX6_byteAt 33 = .ok (.aaload, 1) := by decide +kernel
theorem dX6_byteAt_34 : decode cX6_byteAt 34 = .ok (.getfield 122, 3) := by decide +kernel
theorem dX6_byteAt_37 : decode cX6_byteAt 37 = .ok (.iload_n 2, 1) := by decide +kernel
theorem dX6_byteAt_38 : decode cX6_byteAt 38 = .ok (.iaload, 1) := by decide +kernel
theorem dX6_byteAt_39 : decode cX6_byteAt 39 = .ok (.ireturn, 1) := by decide +kernel
theorem dX6_spoil_0 : decode cX6_spoil 0 = .ok (.aload_n 0, 1) := by decide +kernel
theorem dX6_spoil_1 : decode cX6_spoil 1 = .ok (.iload_n 1, 1) := by decide +kernel
theorem dX6_spoil_2 : decode cX6_spoil 2 = .ok (.invokevirtual 111, 3) := by decide +kernel
theorem dX6_spoil_5 : decode cX6_spoil 5 = .ok (.ifCond .ne 12, 3) := by decide +kernel
theorem dX6_spoil_8 : decode cX6_spoil 8 = .ok (.aload_n 0, 1) := by decide +kernel
theorem dX6_spoil_9 : decode cX6_spoil 9 = .ok (.iload_n 1, 1) := by decide +kernel
theorem dX6_spoil_10 : decode cX6_spoil 10 = .ok (.iload_n 2, 1) := by decide +kernel
theorem dX6_spoil_11 : decode cX6_spoil 11 = .ok (.invokevirtual 118, 3) := by decide +kernel
theorem dX6_spoil_14 : decode cX6_spoil 14 = .ok (.ifCond .eq 11, 3) := by decide +kernel
theorem dX6_spoil_17 : decode cX6_spoil 17 = .ok (.new 51, 3) := by decide +kernel
theorem dX6_spoil_20 : decode cX6_spoil 20 = .ok (.dup, 1) := by decide +kernel
theorem dX6_spoil_21 : decode cX6_spoil 21 = .ok (.invokespecial 53, 3) := by decide +kernel
theorem dX6_spoil_24 : decode cX6_spoil 24 = .ok (.athrow, 1) := by decide +kernel
theorem dX6_spoil_25 : decode cX6_spoil 25 = .ok (.iload_n 3, 1) := by decide +kernel
theorem dX6_spoil_26 : decode cX6_spoil 26 = .ok (.ifCond .lt 10, 3) := by decide +kernel
theorem dX6_spoil_29 : decode cX6_spoil 29 = .ok (.iload_n 3, 1) := by decide +kernel
theorem dX6_spoil_30 : decode cX6_spoil 30 = .ok (.sipush 255, 3) := by decide +kernel
theorem dX6_spoil_33 : decode cX6_spoil 33 = .ok (.if_icmp .le 11, 3) := by decide +kernel
theorem dX6_spoil_36 : decode cX6_spoil 36 = .ok (.new 57, 3) := by decide +kernel
theorem dX6_spoil_39 : decode cX6_spoil 39 = .ok (.dup, 1) := by decide +kernel
theorem dX6_spoil_40 : decode cX6_spoil 40 = .ok (.invokespecial 59, 3) := by decide +kernel
theorem dX6_spoil_43 : decode cX6_spoil 43 = .ok (.athrow, 1) := by decide +kernel
theorem dX6_spoil_44 : decode cX6_spoil 44 = .ok (.aload_n 0, 1) := by decide +kernel
theorem dX6_spoil_45 : decode cX6_spoil 45 = .ok (.getfield 19, 3) := by decide +kernel
theorem dX6_spoil_48 : decode cX6_spoil 48 = .ok (.getfield 114, 3) := by decide +kernel
theorem dX6_spoil_51 : decode cX6_spoil 51 = .ok (.iload_n 1, 1) := by decide +kernel
theorem dX6_spoil_52 : decode cX6_spoil 52 = .ok (.aaload, 1) := by decide +kernel
theorem dX6_spoil_53 : decode cX6_spoil 53 = .ok (.getfield 122, 3) := by decide +kernel
theorem dX6_spoil_56 : decode cX6_spoil 56 = .ok (.iload_n 2, 1) := by decide +kernel
theorem dX6_spoil_57 : decode cX6_spoil 57 = .ok (.dup2, 1) := by decide +kernel
theorem dX6_spoil_58 : decode cX6_spoil 58 = .ok (.iaload, 1) := by decide +kernel
theorem dX6_spoil_59 : decode cX6_spoil 59 = .ok (.iload_n 3, 1) := by decide +kernel
theorem dX6_spoil_60 : decode cX6_spoil 60 = .ok (.ixor, 1) := by decide +kernel
theorem dX6_spoil_61 : decode cX6_spoil 61 = .ok (.iastore, 1) := by decide +kernel
theorem dX6_spoil_62 : decode cX6_spoil 62 = .ok (.return_, 1) := by decide +kernel
theorem dX6_lose_0 : decode cX6_lose 0 = .ok (.aload_n 0, 1) := by decide +kernel
theorem dX6_lose_1 : decode cX6_lose 1 = .ok (.iload_n 1, 1) := by decide +kernel
theorem dX6_lose_2 : decode cX6_lose 2 = .ok (.invokevirtual 111, 3) := by decide +kernel
theorem dX6_lose_5 : decode cX6_lose 5 = .ok (.ifCond .eq 11, 3) := by decide +kernel
theorem dX6_lose_8 : decode cX6_lose 8 = .ok (.new 51, 3) := by decide +kernel
theorem dX6_lose_11 : decode cX6_lose 11 = .ok (.dup, 1) := by decide +kernel
theorem dX6_lose_12 : decode cX6_lose 12 = .ok (.invokespecial 53, 3) := by decide +kernel
theorem dX6_lose_15 : decode cX6_lose 15 = .ok (.athrow, 1) := by decide +kernel
theorem dX6_lose_16 : decode cX6_lose 16 = .ok (.aload_n 0, 1) := by decide +kernel
theorem dX6_lose_17 : decode cX6_lose 17 = .ok (.getfield 19, 3) := by decide +kernel
theorem dX6_lose_20 : decode cX6_lose 20 = .ok (.iload_n 1, 1) := by decide +kernel
theorem dX6_lose_21 : decode cX6_lose 21 = .ok (.invokevirtual 125, 3) := by decide +kernel
theorem dX6_lose_24 : decode cX6_lose 24 = .ok (.pop, 1) := by decide +kernel
theorem dX6_lose_25 : decode cX6_lose 25 = .ok (.return_, 1) := by decide +kernel
theorem dX6_deliver_0 : decode cX6_deliver 0 = .ok (.aload_n 0, 1) := by decide +kernel
theorem dX6_deliver_1 : decode cX6_deliver 1 = .ok (.iload_n 1, 1) := by decide +kernel
theorem dX6_deliver_2 : decode cX6_deliver 2 = .ok (.invokevirtual 111, 3) := by decide +kernel
theorem dX6_deliver_5 : decode cX6_deliver 5 = .ok (.ifCond .eq 11, 3) := by decide +kernel
theorem dX6_deliver_8 : decode cX6_deliver 8 = .ok (.new 51, 3) := by decide +kernel
theorem dX6_deliver_11 : decode cX6_deliver 11 = .ok (.dup, 1) := by decide +kernel
theorem dX6_deliver_12 : decode cX6_deliver 12 = .ok (.invokespecial 53, 3) := by decide +kernel
theorem dX6_deliver_15 : decode cX6_deliver 15 = .ok (.athrow, 1) := by decide +kernel
theorem dX6_deliver_16 : decode cX6_deliver 16 = .ok (.aload_n 0, 1) := by decide +kernel
theorem dX6_deliver_17 : decode cX6_deliver 17 = .ok (.getfield 19, 3) := by decide +kernel
theorem dX6_deliver_20 : decode cX6_deliver 20 = .ok (.iload_n 1, 1) := by decide +kernel
theorem dX6_deliver_21 : decode cX6_deliver 21 = .ok (.invokevirtual 125, 3) := by decide +kernel
theorem dX6_deliver_24 : decode cX6_deliver 24 = .ok (.astore_n 2, 1) := by decide +kernel
theorem dX6_deliver_25 : decode cX6_deliver 25 = .ok (.aload_n 2, 1) := by decide +kernel
theorem dX6_deliver_26 : decode cX6_deliver 26 = .ok (.invokevirtual 129, 3) := by decide +kernel
theorem dX6_deliver_29 : decode cX6_deliver 29 = .ok (.aload_n 2, 1) := by decide +kernel
theorem dX6_deliver_30 : decode cX6_deliver 30 = .ok (.getfield 132, 3) := by decide +kernel
theorem dX6_deliver_33 : decode cX6_deliver 33 = .ok (.iconst (-1), 1) := by decide +kernel
theorem dX6_deliver_34 : decode cX6_deliver 34 = .ok (.if_icmp .ne 22, 3) := by decide +kernel
theorem dX6_deliver_37 : decode cX6_deliver 37 = .ok (.aload_n 0, 1) := by decide +kernel
theorem dX6_deliver_38 : decode cX6_deliver 38 = .ok (.getfield 35, 3) := by decide +kernel
theorem dX6_deliver_41 : decode cX6_deliver 41 = .ok (.bipush 8, 2) := by decide +kernel
theorem dX6_deliver_43 : decode cX6_deliver 43 = .ok (.dup2, 1) := by decide +kernel
theorem dX6_deliver_44 : decode cX6_deliver 44 = .ok (.iaload, 1) := by decide +kernel
theorem dX6_deliver_45 : decode cX6_deliver 45 = .ok (.iconst 1, 1) := by decide +kernel
theorem dX6_deliver_46 : decode cX6_deliver 46 = .ok (.iadd, 1) := by decide +kernel
theorem dX6_deliver_47 : decode cX6_deliver 47 = .ok (.iastore, 1) := by decide +kernel
theorem dX6_deliver_48 : decode cX6_deliver 48 = .ok (.new 57, 3) := by decide +kernel
theorem dX6_deliver_51 : decode cX6_deliver 51 = .ok (.dup, 1) := by decide +kernel
theorem dX6_deliver_52 : decode cX6_deliver 52 = .ok (.invokespecial 59, 3) := by decide +kernel
theorem dX6_deliver_55 : decode cX6_deliver 55 = .ok (.athrow, 1) := by decide +kernel
theorem dX6_deliver_56 : decode cX6_deliver 56 = .ok (.aload_n 0, 1) := by decide +kernel
theorem dX6_deliver_57 : decode cX6_deliver 57 = .ok (.getfield 31, 3) := by decide +kernel
theorem dX6_deliver_60 : decode cX6_deliver 60 = .ok (.aload_n 2, 1) := by decide +kernel
theorem dX6_deliver_61 : decode cX6_deliver 61 = .ok (.getfield 135, 3) := by decide +kernel
theorem dX6_deliver_64 : decode cX6_deliver 64 = .ok (.aaload, 1) := by decide +kernel
theorem dX6_deliver_65 : decode cX6_deliver 65 = .ok (.astore_n 3, 1) := by decide +kernel
theorem dX6_deliver_66 : decode cX6_deliver 66 = .ok (.aload_n 3, 1) := by decide +kernel
theorem dX6_deliver_67 : decode cX6_deliver 67 = .ok (.aload_n 2, 1) := by decide +kernel
theorem dX6_deliver_68 : decode cX6_deliver 68 = .ok (.getfield 132, 3) := by decide +kernel
theorem dX6_deliver_71 : decode cX6_deliver 71 = .ok (.invokevirtual 138, 3) := by decide +kernel
theorem dX6_deliver_74 : decode cX6_deliver 74 = .ok (.ifCond .ne 22, 3) := by decide +kernel
theorem dX6_deliver_77 : decode cX6_deliver 77 = .ok (.aload_n 0, 1) := by decide +kernel
theorem dX6_deliver_78 : decode cX6_deliver 78 = .ok (.getfield 35, 3) := by decide +kernel
theorem dX6_deliver_81 : decode cX6_deliver 81 = .ok (.bipush 9, 2) := by decide +kernel
theorem dX6_deliver_83 : decode cX6_deliver 83 = .ok (.dup2, 1) := by decide +kernel
theorem dX6_deliver_84 : decode cX6_deliver 84 = .ok (.iaload, 1) := by decide +kernel
theorem dX6_deliver_85 : decode cX6_deliver 85 = .ok (.iconst 1, 1) := by decide +kernel
theorem dX6_deliver_86 : decode cX6_deliver 86 = .ok (.iadd, 1) := by decide +kernel
theorem dX6_deliver_87 : decode cX6_deliver 87 = .ok (.iastore, 1) := by decide +kernel
theorem dX6_deliver_88 : decode cX6_deliver 88 = .ok (.new 141, 3) := by decide +kernel
theorem dX6_deliver_91 : decode cX6_deliver 91 = .ok (.dup, 1) := by decide +kernel
theorem dX6_deliver_92 : decode cX6_deliver 92 = .ok (.invokespecial 143, 3) := by decide +kernel
theorem dX6_deliver_95 : decode cX6_deliver 95 = .ok (.athrow, 1) := by decide +kernel
theorem dX6_deliver_96 : decode cX6_deliver 96 = .ok (.aload_n 3, 1) := by decide +kernel
theorem dX6_deliver_97 : decode cX6_deliver 97 = .ok (.aload_n 2, 1) := by decide +kernel
theorem dX6_deliver_98 : decode cX6_deliver 98 = .ok (.aload_n 0, 1) := by decide +kernel
theorem dX6_deliver_99 : decode cX6_deliver 99 = .ok (.getfield 42, 3) := by decide +kernel
theorem dX6_deliver_102 : decode cX6_deliver 102 = .ok (.invokevirtual 144, 3) := by decide +kernel
theorem dX6_deliver_105 : decode cX6_deliver 105 = .ok (.istore 4, 2) := by decide +kernel
theorem dX6_deliver_107 : decode cX6_deliver 107 = .ok (.iload 4, 2) := by decide +kernel
theorem dX6_deliver_109 : decode cX6_deliver 109 = .ok (.ifCond .ne 22, 3) := by decide +kernel
theorem dX6_deliver_112 : decode cX6_deliver 112 = .ok (.aload_n 0, 1) := by decide +kernel
theorem dX6_deliver_113 : decode cX6_deliver 113 = .ok (.getfield 35, 3) := by decide +kernel
theorem dX6_deliver_116 : decode cX6_deliver 116 = .ok (.bipush 10, 2) := by decide +kernel
theorem dX6_deliver_118 : decode cX6_deliver 118 = .ok (.dup2, 1) := by decide +kernel
theorem dX6_deliver_119 : decode cX6_deliver 119 = .ok (.iaload, 1) := by decide +kernel
theorem dX6_deliver_120 : decode cX6_deliver 120 = .ok (.iconst 1, 1) := by decide +kernel
theorem dX6_deliver_121 : decode cX6_deliver 121 = .ok (.iadd, 1) := by decide +kernel
theorem dX6_deliver_122 : decode cX6_deliver 122 = .ok (.iastore, 1) := by decide +kernel
theorem dX6_deliver_123 : decode cX6_deliver 123 = .ok (.new 148, 3) := by decide +kernel
theorem dX6_deliver_126 : decode cX6_deliver 126 = .ok (.dup, 1) := by decide +kernel
theorem dX6_deliver_127 : decode cX6_deliver 127 = .ok (.invokespecial 150, 3) := by decide +kernel
theorem dX6_deliver_130 : decode cX6_deliver 130 = .ok (.athrow, 1) := by decide +kernel
theorem dX6_deliver_131 : decode cX6_deliver 131 = .ok (.aload_n 0, 1) := by decide +kernel
theorem dX6_deliver_132 : decode cX6_deliver 132 = .ok (.invokevirtual 151, 3) := by decide +kernel
theorem dX6_deliver_135 : decode cX6_deliver 135 = .ok (.aload_n 0, 1) := by decide +kernel
theorem dX6_deliver_136 : decode cX6_deliver 136 = .ok (.getfield 35, 3) := by decide +kernel
theorem dX6_deliver_139 : decode cX6_deliver 139 = .ok (.bipush 6, 2) := by decide +kernel
theorem dX6_deliver_141 : decode cX6_deliver 141 = .ok (.dup2, 1) := by decide +kernel
theorem dX6_deliver_142 : decode cX6_deliver 142 = .ok (.iaload, 1) := by decide +kernel
theorem dX6_deliver_143 : decode cX6_deliver 143 = .ok (.iconst 1, 1) := by decide +kernel
theorem dX6_deliver_144 : decode cX6_deliver 144 = .ok (.iadd, 1) := by decide +kernel
theorem dX6_deliver_145 : decode cX6_deliver 145 = .ok (.iastore, 1) := by decide +kernel
theorem dX6_deliver_146 : decode cX6_deliver 146 = .ok (.iload 4, 2) := by decide +kernel
theorem dX6_deliver_148 : decode cX6_deliver 148 = .ok (.iconst 2, 1) := by decide +kernel
theorem dX6_deliver_149 : decode cX6_deliver 149 = .ok (.if_icmp .ne 21, 3) := by decide +kernel
theorem dX6_deliver_152 : decode cX6_deliver 152 = .ok (.aload_n 0, 1) := by decide +kernel
theorem dX6_deliver_153 : decode cX6_deliver 153 = .ok (.getfield 35, 3) := by decide +kernel
theorem dX6_deliver_156 : decode cX6_deliver 156 = .ok (.bipush 7, 2) := by decide +kernel
theorem dX6_deliver_158 : decode cX6_deliver 158 = .ok (.dup2, 1) := by decide +kernel
theorem dX6_deliver_159 : decode cX6_deliver 159 = .ok (.iaload, 1) := by decide +kernel
theorem dX6_deliver_160 : decode cX6_deliver 160 = .ok (.iconst 1, 1) := by decide +kernel
theorem dX6_deliver_161 : decode cX6_deliver 161 = .ok (.iadd, 1) := by decide +kernel
theorem dX6_deliver_162 : decode cX6_deliver 162 = .ok (.iastore, 1) := by decide +kernel
theorem dX6_deliver_163 : decode cX6_deliver 163 = .ok (.aload_n 2, 1) := by decide +kernel
theorem dX6_deliver_164 : decode cX6_deliver 164 = .ok (.getfield 135, 3) := by decide +kernel
theorem dX6_deliver_167 : decode cX6_deliver 167 = .ok (.iconst 4, 1) := by decide +kernel
theorem dX6_deliver_168 : decode cX6_deliver 168 = .ok (.iadd, 1) := by decide +kernel
theorem dX6_deliver_169 : decode cX6_deliver 169 = .ok (.ireturn, 1) := by decide +kernel
theorem dX6_deliver_170 : decode cX6_deliver 170 = .ok (.aload_n 2, 1) := by decide +kernel
theorem dX6_deliver_171 : decode cX6_deliver 171 = .ok (.getfield 135, 3) := by decide +kernel
theorem dX6_deliver_174 : decode cX6_deliver 174 = .ok (.ireturn, 1) := by decide +kernel
theorem dX6_made_0 : decode cX6_made 0 = .ok (.iload_n 1, 1) := by decide +kernel
theorem dX6_made_1 : decode cX6_made 1 = .ok (.ifCond .lt 9, 3) := by decide +kernel
theorem dX6_made_4 : decode cX6_made 4 = .ok (.iload_n 1, 1) := by decide +kernel
theorem dX6_made_5 : decode cX6_made 5 = .ok (.bipush 11, 2) := by decide +kernel
theorem dX6_made_7 : decode cX6_made 7 = .ok (.if_icmp .lt 11, 3) := by decide +kernel
theorem dX6_made_10 : decode cX6_made 10 = .ok (.new 51, 3) := by decide +kernel
theorem dX6_made_13 : decode cX6_made 13 = .ok (.dup, 1) := by decide +kernel
theorem dX6_made_14 : decode cX6_made 14 = .ok (.invokespecial 53, 3) := by decide +kernel
theorem dX6_made_17 : decode cX6_made 17 = .ok (.athrow, 1) := by decide +kernel
theorem dX6_made_18 : decode cX6_made 18 = .ok (.aload_n 0, 1) := by decide +kernel
theorem dX6_made_19 : decode cX6_made 19 = .ok (.getfield 39, 3) := by decide +kernel
theorem dX6_made_22 : decode cX6_made 22 = .ok (.iload_n 1, 1) := by decide +kernel
theorem dX6_made_23 : decode cX6_made 23 = .ok (.invokevirtual 154, 3) := by decide +kernel
theorem dX6_made_26 : decode cX6_made 26 = .ok (.ireturn, 1) := by decide +kernel
theorem dX6_sender_0 : decode cX6_sender 0 = .ok (.iload_n 1, 1) := by decide +kernel
theorem dX6_sender_1 : decode cX6_sender 1 = .ok (.invokestatic 47, 3) := by decide +kernel
theorem dX6_sender_4 : decode cX6_sender 4 = .ok (.ifCond .eq 11, 3) := by decide +kernel
theorem dX6_sender_7 : decode cX6_sender 7 = .ok (.new 51, 3) := by decide +kernel
theorem dX6_sender_10 : decode cX6_sender 10 = .ok (.dup, 1) := by decide +kernel
theorem dX6_sender_11 : decode cX6_sender 11 = .ok (.invokespecial 53, 3) := by decide +kernel
theorem dX6_sender_14 : decode cX6_sender 14 = .ok (.athrow, 1) := by decide +kernel
theorem dX6_sender_15 : decode cX6_sender 15 = .ok (.aload_n 0, 1) := by decide +kernel
theorem dX6_sender_16 : decode cX6_sender 16 = .ok (.getfield 25, 3) := by decide +kernel
theorem dX6_sender_19 : decode cX6_sender 19 = .ok (.iload_n 1, 1) := by decide +kernel
theorem dX6_sender_20 : decode cX6_sender 20 = .ok (.aaload, 1) := by decide +kernel
theorem dX6_sender_21 : decode cX6_sender 21 = .ok (.astore_n 3, 1) := by decide +kernel
theorem dX6_sender_22 : decode cX6_sender 22 = .ok (.iload_n 2, 1) := by decide +kernel
theorem dX6_sender_23 : decode cX6_sender 23 = .ok (.tableswitch 64 0 4 #[33, 38, 43, 48, 56], 33) := by decide +kernel
theorem dX6_sender_56 : decode cX6_sender 56 = .ok (.aload_n 3, 1) := by decide +kernel
theorem dX6_sender_57 : decode cX6_sender 57 = .ok (.getfield 158, 3) := by decide +kernel
theorem dX6_sender_60 : decode cX6_sender 60 = .ok (.ireturn, 1) := by decide +kernel
theorem dX6_sender_61 : decode cX6_sender 61 = .ok (.aload_n 3, 1) := by decide +kernel
theorem dX6_sender_62 : decode cX6_sender 62 = .ok (.getfield 161, 3) := by decide +kernel
theorem dX6_sender_65 : decode cX6_sender 65 = .ok (.ireturn, 1) := by decide +kernel
theorem dX6_sender_66 : decode cX6_sender 66 = .ok (.aload_n 3, 1) := by decide +kernel
theorem dX6_sender_67 : decode cX6_sender 67 = .ok (.getfield 164, 3) := by decide +kernel
theorem dX6_sender_70 : decode cX6_sender 70 = .ok (.ireturn, 1) := by decide +kernel
theorem dX6_sender_71 : decode cX6_sender 71 = .ok (.aload_n 3, 1) := by decide +kernel
theorem dX6_sender_72 : decode cX6_sender 72 = .ok (.getfield 167, 3) := by decide +kernel
theorem dX6_sender_75 : decode cX6_sender 75 = .ok (.getfield 171, 3) := by decide +kernel
theorem dX6_sender_78 : decode cX6_sender 78 = .ok (.ireturn, 1) := by decide +kernel
theorem dX6_sender_79 : decode cX6_sender 79 = .ok (.aload_n 3, 1) := by decide +kernel
theorem dX6_sender_80 : decode cX6_sender 80 = .ok (.getfield 167, 3) := by decide +kernel
theorem dX6_sender_83 : decode cX6_sender 83 = .ok (.getfield 176, 3) := by decide +kernel
theorem dX6_sender_86 : decode cX6_sender 86 = .ok (.ireturn, 1) := by decide +kernel
theorem dX6_sender_87 : decode cX6_sender 87 = .ok (.new 57, 3) := by decide +kernel
theorem dX6_sender_90 : decode cX6_sender 90 = .ok (.dup, 1) := by decide +kernel
theorem dX6_sender_91 : decode cX6_sender 91 = .ok (.invokespecial 59, 3) := by decide +kernel
theorem dX6_sender_94 : decode cX6_sender 94 = .ok (.athrow, 1) := by decide +kernel
theorem dX6_receiver_0 : decode cX6_receiver 0 = .ok (.iload_n 1, 1) := by decide +kernel
theorem dX6_receiver_1 : decode cX6_receiver 1 = .ok (.invokestatic 47, 3) := by decide +kernel
theorem dX6_receiver_4 : decode cX6_receiver 4 = .ok (.ifCond .eq 11, 3) := by decide +kernel
theorem dX6_receiver_7 : decode cX6_receiver 7 = .ok (.new 51, 3) := by decide +kernel
theorem dX6_receiver_10 : decode cX6_receiver 10 = .ok (.dup, 1) := by decide +kernel
theorem dX6_receiver_11 : decode cX6_receiver 11 = .ok (.invokespecial 53, 3) := by decide +kernel
theorem dX6_receiver_14 : decode cX6_receiver 14 = .ok (.athrow, 1) := by decide +kernel
theorem dX6_receiver_15 : decode cX6_receiver 15 = .ok (.aload_n 0, 1) := by decide +kernel
theorem dX6_receiver_16 : decode cX6_receiver 16 = .ok (.getfield 31, 3) := by decide +kernel
theorem dX6_receiver_19 : decode cX6_receiver 19 = .ok (.iload_n 1, 1) := by decide +kernel
theorem dX6_receiver_20 : decode cX6_receiver 20 = .ok (.aaload, 1) := by decide +kernel
theorem dX6_receiver_21 : decode cX6_receiver 21 = .ok (.astore_n 3, 1) := by decide +kernel
theorem dX6_receiver_22 : decode cX6_receiver 22 = .ok (.iload_n 2, 1) := by decide +kernel
theorem dX6_receiver_23 : decode cX6_receiver 23 = .ok (.tableswitch 49 0 3 #[29, 34, 39, 44], 29) := by decide +kernel
theorem dX6_receiver_52 : decode cX6_receiver 52 = .ok (.aload_n 3, 1) := by decide +kernel
theorem dX6_receiver_53 : decode cX6_receiver 53 = .ok (.getfield 179, 3) := by decide +kernel
theorem dX6_receiver_56 : decode cX6_receiver 56 = .ok (.ireturn, 1) := by decide +kernel
theorem dX6_receiver_57 : decode cX6_receiver 57 = .ok (.aload_n 3, 1) := by decide +kernel
theorem dX6_receiver_58 : decode cX6_receiver 58 = .ok (.getfield 182, 3) := by decide +kernel
theorem dX6_receiver_61 : decode cX6_receiver 61 = .ok (.ireturn, 1) := by decide +kernel
theorem dX6_receiver_62 : decode cX6_receiver 62 = .ok (.aload_n 3, 1) := by decide +kernel
theorem dX6_receiver_63 : decode cX6_receiver 63 = .ok (.getfield 185, 3) := by decide +kernel
theorem dX6_receiver_66 : decode cX6_receiver 66 = .ok (.ireturn, 1) := by decide +kernel
theorem dX6_receiver_67 : decode cX6_receiver 67 = .ok (.aload_n 3, 1) := by decide +kernel
theorem dX6_receiver_68 : decode cX6_receiver 68 = .ok (.getfield 188, 3) := by decide +kernel
theorem dX6_receiver_71 : decode cX6_receiver 71 = .ok (.ireturn, 1) := by decide +kernel
theorem dX6_receiver_72 : decode cX6_receiver 72 = .ok (.new 57, 3) := by decide +kernel
theorem dX6_receiver_75 : decode cX6_receiver 75 = .ok (.dup, 1) := by decide +kernel
theorem dX6_receiver_76 : decode cX6_receiver 76 = .ok (.invokespecial 59, 3) := by decide +kernel
theorem dX6_receiver_79 : decode cX6_receiver 79 = .ok (.athrow, 1) := by decide +kernel
theorem dX6_count_0 : decode cX6_count 0 = .ok (.iload_n 1, 1) := by decide +kernel
theorem dX6_count_1 : decode cX6_count 1 = .ok (.ifCond .lt 9, 3) := by decide +kernel
theorem dX6_count_4 : decode cX6_count 4 = .ok (.iload_n 1, 1) := by decide +kernel
theorem dX6_count_5 : decode cX6_count 5 = .ok (.bipush 11, 2) := by decide +kernel
theorem dX6_count_7 : decode cX6_count 7 = .ok (.if_icmp .lt 11, 3) := by decide +kernel
theorem dX6_count_10 : decode cX6_count 10 = .ok (.new 57, 3) := by decide +kernel
theorem dX6_count_13 : decode cX6_count 13 = .ok (.dup, 1) := by decide +kernel
theorem dX6_count_14 : decode cX6_count 14 = .ok (.invokespecial 59, 3) := by decide +kernel
theorem dX6_count_17 : decode cX6_count 17 = .ok (.athrow, 1) := by decide +kernel
theorem dX6_count_18 : decode cX6_count 18 = .ok (.aload_n 0, 1) := by decide +kernel
theorem dX6_count_19 : decode cX6_count 19 = .ok (.getfield 35, 3) := by decide +kernel
theorem dX6_count_22 : decode cX6_count 22 = .ok (.iload_n 1, 1) := by decide +kernel
theorem dX6_count_23 : decode cX6_count 23 = .ok (.iaload, 1) := by decide +kernel
theorem dX6_count_24 : decode cX6_count 24 = .ok (.ireturn, 1) := by decide +kernel
theorem dX6_keepTrial_0 : decode cX6_keepTrial 0 = .ok (.aload_n 0, 1) := by decide +kernel
theorem dX6_keepTrial_1 : decode cX6_keepTrial 1 = .ok (.getfield 39, 3) := by decide +kernel
theorem dX6_keepTrial_4 : decode cX6_keepTrial 4 = .ok (.astore_n 1, 1) := by decide +kernel
theorem dX6_keepTrial_5 : decode cX6_keepTrial 5 = .ok (.aload_n 0, 1) := by decide +kernel
theorem dX6_keepTrial_6 : decode cX6_keepTrial 6 = .ok (.aload_n 0, 1) := by decide +kernel
theorem dX6_keepTrial_7 : decode cX6_keepTrial 7 = .ok (.getfield 42, 3) := by decide +kernel
theorem dX6_keepTrial_10 : decode cX6_keepTrial 10 = .ok (.putfield 39, 3) := by decide +kernel
theorem dX6_keepTrial_13 : decode cX6_keepTrial 13 = .ok (.aload_n 0, 1) := by decide +kernel
theorem dX6_keepTrial_14 : decode cX6_keepTrial 14 = .ok (.aload_n 1, 1) := by decide +kernel
theorem dX6_keepTrial_15 : decode cX6_keepTrial 15 = .ok (.putfield 42, 3) := by decide +kernel
theorem dX6_keepTrial_18 : decode cX6_keepTrial 18 = .ok (.return_, 1) := by decide +kernel
theorem dX6_isNoPacket_0 : decode cX6_isNoPacket 0 = .ok (.iload_n 1, 1) := by decide +kernel
theorem dX6_isNoPacket_1 : decode cX6_isNoPacket 1 = .ok (.ifCond .lt 14, 3) := by decide +kernel
theorem dX6_isNoPacket_4 : decode cX6_isNoPacket 4 = .ok (.iload_n 1, 1) := by decide +kernel
theorem dX6_isNoPacket_5 : decode cX6_isNoPacket 5 = .ok (.aload_n 0, 1) := by decide +kernel
theorem dX6_isNoPacket_6 : decode cX6_isNoPacket 6 = .ok (.getfield 19, 3) := by decide +kernel
theorem dX6_isNoPacket_9 : decode cX6_isNoPacket 9 = .ok (.getfield 108, 3) := by decide +kernel
theorem dX6_isNoPacket_12 : decode cX6_isNoPacket 12 = .ok (.if_icmp .lt 7, 3) := by decide +kernel
theorem dX6_isNoPacket_15 : decode cX6_isNoPacket 15 = .ok (.iconst 1, 1) := by decide +kernel
theorem dX6_isNoPacket_16 : decode cX6_isNoPacket 16 = .ok (.goto 4, 3) := by decide +kernel
theorem dX6_isNoPacket_19 : decode cX6_isNoPacket 19 = .ok (.iconst 0, 1) := by decide +kernel
theorem dX6_isNoPacket_20 : decode cX6_isNoPacket 20 = .ok (.ireturn, 1) := by decide +kernel
theorem dX6_isNoByte_0 : decode cX6_isNoByte 0 = .ok (.iload_n 2, 1) := by decide +kernel
theorem dX6_isNoByte_1 : decode cX6_isNoByte 1 = .ok (.ifCond .lt 19, 3) := by decide +kernel
theorem dX6_isNoByte_4 : decode cX6_isNoByte 4 = .ok (.iload_n 2, 1) := by decide +kernel
theorem dX6_isNoByte_5 : decode cX6_isNoByte 5 = .ok (.aload_n 0, 1) := by decide +kernel
theorem dX6_isNoByte_6 : decode cX6_isNoByte 6 = .ok (.getfield 19, 3) := by decide +kernel
theorem dX6_isNoByte_9 : decode cX6_isNoByte 9 = .ok (.getfield 114, 3) := by decide +kernel
theorem dX6_isNoByte_12 : decode cX6_isNoByte 12 = .ok (.iload_n 1, 1) := by decide +kernel
theorem dX6_isNoByte_13 : decode cX6_isNoByte 13 = .ok (.aaload, 1) := by decide +kernel
theorem dX6_isNoByte_14 : decode cX6_isNoByte 14 = .ok (.getfield 101, 3) := by decide +kernel
theorem dX6_isNoByte_17 : decode cX6_isNoByte 17 = .ok (.if_icmp .lt 7, 3) := by decide +kernel
theorem dX6_isNoByte_20 : decode cX6_isNoByte 20 = .ok (.iconst 1, 1) := by decide +kernel
theorem dX6_isNoByte_21 : decode cX6_isNoByte 21 = .ok (.goto 4, 3) := by decide +kernel
theorem dX6_isNoByte_24 : decode cX6_isNoByte 24 = .ok (.iconst 0, 1) := by decide +kernel
theorem dX6_isNoByte_25 : decode cX6_isNoByte 25 = .ok (.ireturn, 1) := by decide +kernel
theorem dX6_isNoFlow_0 : decode cX6_isNoFlow 0 = .ok (.iload_n 0, 1) := by decide +kernel
theorem dX6_isNoFlow_1 : decode cX6_isNoFlow 1 = .ok (.ifCond .lt 8, 3) := by decide +kernel
theorem dX6_isNoFlow_4 : decode cX6_isNoFlow 4 = .ok (.iload_n 0, 1) := by decide +kernel
theorem dX6_isNoFlow_5 : decode cX6_isNoFlow 5 = .ok (.iconst 4, 1) := by decide +kernel
theorem dX6_isNoFlow_6 : decode cX6_isNoFlow 6 = .ok (.if_icmp .lt 7, 3) := by decide +kernel
theorem dX6_isNoFlow_9 : decode cX6_isNoFlow 9 = .ok (.iconst 1, 1) := by decide +kernel
theorem dX6_isNoFlow_10 : decode cX6_isNoFlow 10 = .ok (.goto 4, 3) := by decide +kernel
theorem dX6_isNoFlow_13 : decode cX6_isNoFlow 13 = .ok (.iconst 0, 1) := by decide +kernel
theorem dX6_isNoFlow_14 : decode cX6_isNoFlow 14 = .ok (.ireturn, 1) := by decide +kernel
theorem dX6_isNotInTwoBytes_0 : decode cX6_isNotInTwoBytes 0 = .ok (.iload_n 0, 1) := by decide +kernel
theorem dX6_isNotInTwoBytes_1 : decode cX6_isNotInTwoBytes 1 = .ok (.ifCond .lt 9, 3) := by decide +kernel
theorem dX6_isNotInTwoBytes_4 : decode cX6_isNotInTwoBytes 4 = .ok (.iload_n 0, 1) := by decide +kernel
theorem dX6_isNotInTwoBytes_5 : decode cX6_isNotInTwoBytes 5 = .ok (.ldc 191, 2) := by decide +kernel
theorem dX6_isNotInTwoBytes_7 : decode cX6_isNotInTwoBytes 7 = .ok (.if_icmp .le 7, 3) := by decide +kernel
theorem dX6_isNotInTwoBytes_10 : decode cX6_isNotInTwoBytes 10 = .ok (.iconst 1, 1) := by decide +kernel
theorem dX6_isNotInTwoBytes_11 : decode cX6_isNotInTwoBytes 11 = .ok (.goto 4, 3) := by decide +kernel
theorem dX6_isNotInTwoBytes_14 : decode cX6_isNotInTwoBytes 14 = .ok (.iconst 0, 1) := by decide +kernel
theorem dX6_isNotInTwoBytes_15 : decode cX6_isNotInTwoBytes 15 = .ok (.ireturn, 1) := by decide +kernel
theorem dX7_init_0 : decode cX7_init 0 = .ok (.aload_n 0, 1) := by decide +kernel
theorem dX7_init_1 : decode cX7_init 1 = .ok (.invokespecial 1, 3) := by decide +kernel
theorem dX7_init_4 : decode cX7_init 4 = .ok (.aload_n 0, 1) := by decide +kernel
theorem dX7_init_5 : decode cX7_init 5 = .ok (.iconst 4, 1) := by decide +kernel
theorem dX7_init_6 : decode cX7_init 6 = .ok (.newarray .int, 2) := by decide +kernel
theorem dX7_init_8 : decode cX7_init 8 = .ok (.putfield 7, 3) := by decide +kernel
theorem dX7_init_11 : decode cX7_init 11 = .ok (.aload_n 0, 1) := by decide +kernel
theorem dX7_init_12 : decode cX7_init 12 = .ok (.iconst 4, 1) := by decide +kernel
theorem dX7_init_13 : decode cX7_init 13 = .ok (.newarray .boolean, 2) := by decide +kernel
theorem dX7_init_15 : decode cX7_init 15 = .ok (.putfield 13, 3) := by decide +kernel
theorem dX7_init_18 : decode cX7_init 18 = .ok (.aload_n 0, 1) := by decide +kernel
theorem dX7_init_19 : decode cX7_init 19 = .ok (.iconst 4, 1) := by decide +kernel
theorem dX7_init_20 : decode cX7_init 20 = .ok (.newarray .int, 2) := by decide +kernel
theorem dX7_init_22 : decode cX7_init 22 = .ok (.putfield 17, 3) := by decide +kernel
theorem dX7_init_25 : decode cX7_init 25 = .ok (.aload_n 0, 1) := by decide +kernel
theorem dX7_init_26 : decode cX7_init 26 = .ok (.iconst 4, 1) := by decide +kernel
theorem dX7_init_27 : decode cX7_init 27 = .ok (.newarray .int, 2) := by decide +kernel
theorem dX7_init_29 : decode cX7_init 29 = .ok (.putfield 20, 3) := by decide +kernel
theorem dX7_init_32 : decode cX7_init 32 = .ok (.aload_n 0, 1) := by decide +kernel
theorem dX7_init_33 : decode cX7_init 33 = .ok (.iconst 4, 1) := by decide +kernel
theorem dX7_init_34 : decode cX7_init 34 = .ok (.newarray .int, 2) := by decide +kernel
theorem dX7_init_36 : decode cX7_init 36 = .ok (.putfield 23, 3) := by decide +kernel
theorem dX7_init_39 : decode cX7_init 39 = .ok (.aload_n 0, 1) := by decide +kernel
theorem dX7_init_40 : decode cX7_init 40 = .ok (.iconst 4, 1) := by decide +kernel
theorem dX7_init_41 : decode cX7_init 41 = .ok (.newarray .int, 2) := by decide +kernel
theorem dX7_init_43 : decode cX7_init 43 = .ok (.putfield 26, 3) := by decide +kernel
theorem dX7_init_46 : decode cX7_init 46 = .ok (.aload_n 0, 1) := by decide +kernel
theorem dX7_init_47 : decode cX7_init 47 = .ok (.iconst 4, 1) := by decide +kernel
theorem dX7_init_48 : decode cX7_init 48 = .ok (.newarray .int, 2) := by decide +kernel
theorem dX7_init_50 : decode cX7_init 50 = .ok (.putfield 29, 3) := by decide +kernel
theorem dX7_init_53 : decode cX7_init 53 = .ok (.aload_n 0, 1) := by decide +kernel
theorem dX7_init_54 : decode cX7_init 54 = .ok (.iconst 4, 1) := by decide +kernel
theorem dX7_init_55 : decode cX7_init 55 = .ok (.newarray .int, 2) := by decide +kernel
theorem dX7_init_57 : decode cX7_init 57 = .ok (.putfield 32, 3) := by decide +kernel
theorem dX7_init_60 : decode cX7_init 60 = .ok (.aload_n 0, 1) := by decide +kernel
theorem dX7_init_61 : decode cX7_init 61 = .ok (.iconst 4, 1) := by decide +kernel
theorem dX7_init_62 : decode cX7_init 62 = .ok (.newarray .int, 2) := by decide +kernel
theorem dX7_init_64 : decode cX7_init 64 = .ok (.putfield 35, 3) := by decide +kernel
theorem dX7_init_67 : decode cX7_init 67 = .ok (.aload_n 0, 1) := by decide +kernel
theorem dX7_init_68 : decode cX7_init 68 = .ok (.iconst 4, 1) := by decide +kernel
theorem dX7_init_69 : decode cX7_init 69 = .ok (.newarray .int, 2) := by decide +kernel
theorem dX7_init_71 : decode cX7_init 71 = .ok (.putfield 38, 3) := by decide +kernel
theorem dX7_init_74 : decode cX7_init 74 = .ok (.aload_n 0, 1) := by decide +kernel
theorem dX7_init_75 : decode cX7_init 75 = .ok (.iconst 4, 1) := by decide +kernel
theorem dX7_init_76 : decode cX7_init 76 = .ok (.newarray .int, 2) := by decide +kernel
theorem dX7_init_78 : decode cX7_init 78 = .ok (.putfield 41, 3) := by decide +kernel
theorem dX7_init_81 : decode cX7_init 81 = .ok (.aload_n 0, 1) := by decide +kernel
theorem dX7_init_82 : decode cX7_init 82 = .ok (.bipush 16, 2) := by decide +kernel
theorem dX7_init_84 : decode cX7_init 84 = .ok (.newarray .int, 2) := by decide +kernel
theorem dX7_init_86 : decode cX7_init 86 = .ok (.putfield 44, 3) := by decide +kernel
theorem dX7_init_89 : decode cX7_init 89 = .ok (.aload_n 0, 1) := by decide +kernel
theorem dX7_init_90 : decode cX7_init 90 = .ok (.bipush 8, 2) := by decide +kernel
theorem dX7_init_92 : decode cX7_init 92 = .ok (.newarray .int, 2) := by decide +kernel
theorem dX7_init_94 : decode cX7_init 94 = .ok (.putfield 47, 3) := by decide +kernel
theorem dX7_init_97 : decode cX7_init 97 = .ok (.aload_n 0, 1) := by decide +kernel
theorem dX7_init_98 : decode cX7_init 98 = .ok (.sipush 160, 3) := by decide +kernel
theorem dX7_init_101 : decode cX7_init 101 = .ok (.newarray .int, 2) := by decide +kernel
theorem dX7_init_103 : decode cX7_init 103 = .ok (.putfield 50, 3) := by decide +kernel
theorem dX7_init_106 : decode cX7_init 106 = .ok (.aload_n 0, 1) := by decide +kernel
theorem dX7_init_107 : decode cX7_init 107 = .ok (.iconst 4, 1) := by decide +kernel
theorem dX7_init_108 : decode cX7_init 108 = .ok (.newarray .int, 2) := by decide +kernel
theorem dX7_init_110 : decode cX7_init 110 = .ok (.putfield 53, 3) := by decide +kernel
theorem dX7_init_113 : decode cX7_init 113 = .ok (.aload_n 0, 1) := by decide +kernel
theorem dX7_init_114 : decode cX7_init 114 = .ok (.iconst 4, 1) := by decide +kernel
theorem dX7_init_115 : decode cX7_init 115 = .ok (.newarray .int, 2) := by decide +kernel
theorem dX7_init_117 : decode cX7_init 117 = .ok (.putfield 56, 3) := by decide +kernel
theorem dX7_init_120 : decode cX7_init 120 = .ok (.aload_n 0, 1) := by decide +kernel
theorem dX7_init_121 : decode cX7_init 121 = .ok (.iconst 4, 1) := by decide +kernel
theorem dX7_init_122 : decode cX7_init 122 = .ok (.newarray .int, 2) := by decide +kernel
theorem dX7_init_124 : decode cX7_init 124 = .ok (.putfield 59, 3) := by decide +kernel
theorem dX7_init_127 : decode cX7_init 127 = .ok (.aload_n 0, 1) := by decide +kernel
theorem dX7_init_128 : decode cX7_init 128 = .ok (.iconst 4, 1) := by decide +kernel
theorem dX7_init_129 : decode cX7_init 129 = .ok (.newarray .int, 2) := by decide +kernel
theorem dX7_init_131 : decode cX7_init 131 = .ok (.putfield 62, 3) := by decide +kernel
theorem dX7_init_134 : decode cX7_init 134 = .ok (.aload_n 0, 1) := by decide +kernel
theorem dX7_init_135 : decode cX7_init 135 = .ok (.iconst 4, 1) := by decide +kernel
theorem dX7_init_136 : decode cX7_init 136 = .ok (.newarray .int, 2) := by decide +kernel
theorem dX7_init_138 : decode cX7_init 138 = .ok (.putfield 65, 3) := by decide +kernel
theorem dX7_init_141 : decode cX7_init 141 = .ok (.aload_n 0, 1) := by decide +kernel
theorem dX7_init_142 : decode cX7_init 142 = .ok (.iconst 4, 1) := by decide +kernel
theorem dX7_init_143 : decode cX7_init 143 = .ok (.newarray .int, 2) := by decide +kernel
theorem dX7_init_145 : decode cX7_init 145 = .ok (.putfield 68, 3) := by decide +kernel
theorem dX7_init_148 : decode cX7_init 148 = .ok (.aload_n 0, 1) := by decide +kernel
theorem dX7_init_149 : decode cX7_init 149 = .ok (.iconst 4, 1) := by decide +kernel
theorem dX7_init_150 : decode cX7_init 150 = .ok (.newarray .int, 2) := by decide +kernel
theorem dX7_init_152 : decode cX7_init 152 = .ok (.putfield 71, 3) := by decide +kernel
theorem dX7_init_155 : decode cX7_init 155 = .ok (.aload_n 0, 1) := by decide +kernel
theorem dX7_init_156 : decode cX7_init 156 = .ok (.iconst 4, 1) := by decide +kernel
theorem dX7_init_157 : decode cX7_init 157 = .ok (.newarray .int, 2) := by decide +kernel
theorem dX7_init_159 : decode cX7_init 159 = .ok (.putfield 74, 3) := by decide +kernel
theorem dX7_init_162 : decode cX7_init 162 = .ok (.aload_n 0, 1) := by decide +kernel
theorem dX7_init_163 : decode cX7_init 163 = .ok (.iconst 4, 1) := by decide +kernel
theorem dX7_init_164 : decode cX7_init 164 = .ok (.newarray .int, 2) := by decide +kernel
theorem dX7_init_166 : decode cX7_init 166 = .ok (.putfield 77, 3) := by decide +kernel
theorem dX7_init_169 : decode cX7_init 169 = .ok (.aload_n 0, 1) := by decide +kernel
theorem dX7_init_170 : decode cX7_init 170 = .ok (.bipush 11, 2) := by decide +kernel
theorem dX7_init_172 : decode cX7_init 172 = .ok (.newarray .int, 2) := by decide +kernel
theorem dX7_init_174 : decode cX7_init 174 = .ok (.putfield 80, 3) := by decide +kernel
theorem dX7_init_177 : decode cX7_init 177 = .ok (.aload_n 0, 1) := by decide +kernel
theorem dX7_init_178 : decode cX7_init 178 = .ok (.bipush 11, 2) := by decide +kernel
theorem dX7_init_180 : decode cX7_init 180 = .ok (.newarray .int, 2) := by decide +kernel
theorem dX7_init_182 : decode cX7_init 182 = .ok (.putfield 83, 3) := by decide +kernel
theorem dX7_init_185 : decode cX7_init 185 = .ok (.aload_n 0, 1) := by decide +kernel
theorem dX7_init_186 : decode cX7_init 186 = .ok (.bipush 13, 2) := by decide +kernel
theorem dX7_init_188 : decode cX7_init 188 = .ok (.newarray .int, 2) := by decide +kernel
theorem dX7_init_190 : decode cX7_init 190 = .ok (.putfield 86, 3) := by decide +kernel
theorem dX7_init_193 : decode cX7_init 193 = .ok (.aload_n 0, 1) := by decide +kernel
theorem dX7_init_194 : decode cX7_init 194 = .ok (.bipush 20, 2) := by decide +kernel
theorem dX7_init_196 : decode cX7_init 196 = .ok (.newarray .int, 2) := by decide +kernel
theorem dX7_init_198 : decode cX7_init 198 = .ok (.putfield 89, 3) := by decide +kernel
theorem dX7_init_201 : decode cX7_init 201 = .ok (.return_, 1) := by decide +kernel
theorem dX7_thrown_0 : decode cX7_thrown 0 = .ok (.aload_n 0, 1) := by decide +kernel
theorem dX7_thrown_1 : decode cX7_thrown 1 = .ok (.getfield 92, 3) := by decide +kernel
theorem dX7_thrown_4 : decode cX7_thrown 4 = .ok (.ireturn, 1) := by decide +kernel
theorem dX7_fill_0 : decode cX7_fill 0 = .ok (.aload_n 0, 1) := by decide +kernel
theorem dX7_fill_1 : decode cX7_fill 1 = .ok (.getfield 86, 3) := by decide +kernel
theorem dX7_fill_4 : decode cX7_fill 4 = .ok (.iconst 0, 1) := by decide +kernel
theorem dX7_fill_5 : decode cX7_fill 5 = .ok (.iload_n 1, 1) := by decide +kernel
theorem dX7_fill_6 : decode cX7_fill 6 = .ok (.sipush 256, 3) := by decide +kernel
theorem dX7_fill_9 : decode cX7_fill 9 = .ok (.idiv, 1) := by decide +kernel
theorem dX7_fill_10 : decode cX7_fill 10 = .ok (.iastore, 1) := by decide +kernel
theorem dX7_fill_11 : decode cX7_fill 11 = .ok (.aload_n 0, 1) := by decide +kernel
theorem dX7_fill_12 : decode cX7_fill 12 = .ok (.getfield 86, 3) := by decide +kernel
theorem dX7_fill_15 : decode cX7_fill 15 = .ok (.iconst 1, 1) := by decide +kernel
theorem dX7_fill_16 : decode cX7_fill 16 = .ok (.iload_n 1, 1) := by decide +kernel
theorem dX7_fill_17 : decode cX7_fill 17 = .ok (.sipush 256, 3) := by decide +kernel
theorem dX7_fill_20 : decode cX7_fill 20 = .ok (.irem, 1) := by decide +kernel
theorem dX7_fill_21 : decode cX7_fill 21 = .ok (.iastore, 1) := by decide +kernel
theorem dX7_fill_22 : decode cX7_fill 22 = .ok (.aload_n 0, 1) := by decide +kernel
theorem dX7_fill_23 : decode cX7_fill 23 = .ok (.getfield 86, 3) := by decide +kernel
theorem dX7_fill_26 : decode cX7_fill 26 = .ok (.iconst 2, 1) := by decide +kernel
theorem dX7_fill_27 : decode cX7_fill 27 = .ok (.iload_n 2, 1) := by decide +kernel
theorem dX7_fill_28 : decode cX7_fill 28 = .ok (.iload_n 3, 1) := by decide +kernel
theorem dX7_fill_29 : decode cX7_fill 29 = .ok (.ifCond .eq 9, 3) := by decide +kernel
theorem dX7_fill_32 : decode cX7_fill 32 = .ok (.sipush 128, 3) := by decide +kernel
theorem dX7_fill_35 : decode cX7_fill 35 = .ok (.goto 4, 3) := by decide +kernel
theorem dX7_fill_38 : decode cX7_fill 38 = .ok (.iconst 0, 1) := by decide +kernel
theorem dX7_fill_39 : decode cX7_fill 39 = .ok (.iadd, 1) := by decide +kernel
theorem dX7_fill_40 : decode cX7_fill 40 = .ok (.iastore, 1) := by decide +kernel
theorem dX7_fill_41 : decode cX7_fill 41 = .ok (.aload_n 0, 1) := by decide +kernel
theorem dX7_fill_42 : decode cX7_fill 42 = .ok (.getfield 86, 3) := by decide +kernel
theorem dX7_fill_45 : decode cX7_fill 45 = .ok (.iconst 3, 1) := by decide +kernel
theorem dX7_fill_46 : decode cX7_fill 46 = .ok (.iload 4, 2) := by decide +kernel
theorem dX7_fill_48 : decode cX7_fill 48 = .ok (.sipush 256, 3) := by decide +kernel
theorem dX7_fill_51 : decode cX7_fill 51 = .ok (.idiv, 1) := by decide +kernel
theorem dX7_fill_52 : decode cX7_fill 52 = .ok (.iastore, 1) := by decide +kernel
theorem dX7_fill_53 : decode cX7_fill 53 = .ok (.aload_n 0, 1) := by decide +kernel
theorem dX7_fill_54 : decode cX7_fill 54 = .ok (.getfield 86, 3) := by decide +kernel
theorem dX7_fill_57 : decode cX7_fill 57 = .ok (.iconst 4, 1) := by decide +kernel
theorem dX7_fill_58 : decode cX7_fill 58 = .ok (.iload 4, 2) := by decide +kernel
theorem dX7_fill_60 : decode cX7_fill 60 = .ok (.sipush 256, 3) := by decide +kernel
theorem dX7_fill_63 : decode cX7_fill 63 = .ok (.irem, 1) := by decide +kernel
theorem dX7_fill_64 : decode cX7_fill 64 = .ok (.iastore, 1) := by decide +kernel
theorem dX7_fill_65 : decode cX7_fill 65 = .ok (.iconst 0, 1) := by decide +kernel
theorem dX7_fill_66 : decode cX7_fill 66 = .ok (.istore 7, 2) := by decide +kernel
theorem dX7_fill_68 : decode cX7_fill 68 = .ok (.iload 7, 2) := by decide +kernel
theorem dX7_fill_70 : decode cX7_fill 70 = .ok (.iconst 4, 1) := by decide +kernel
theorem dX7_fill_71 : decode cX7_fill 71 = .ok (.if_icmp .ge 33, 3) := by decide +kernel
theorem dX7_fill_74 : decode cX7_fill 74 = .ok (.aload_n 0, 1) := by decide +kernel
theorem dX7_fill_75 : decode cX7_fill 75 = .ok (.getfield 86, 3) := by decide +kernel
theorem dX7_fill_78 : decode cX7_fill 78 = .ok (.iconst 5, 1) := by decide +kernel
theorem dX7_fill_79 : decode cX7_fill 79 = .ok (.iload 7, 2) := by decide +kernel
theorem dX7_fill_81 : decode cX7_fill 81 = .ok (.iadd, 1) := by decide +kernel
theorem dX7_fill_82 : decode cX7_fill 82 = .ok (.iload 5, 2) := by decide +kernel
theorem dX7_fill_84 : decode cX7_fill 84 = .ok (.bipush 24, 2) := by decide +kernel
theorem dX7_fill_86 : decode cX7_fill 86 = .ok (.bipush 8, 2) := by decide +kernel
theorem dX7_fill_88 : decode cX7_fill 88 = .ok (.iload 7, 2) := by decide +kernel
theorem dX7_fill_90 : decode cX7_fill 90 = .ok (.imul, 1) := by decide +kernel
theorem dX7_fill_91 : decode cX7_fill 91 = .ok (.isub, 1) := by decide +kernel
theorem dX7_fill_92 : decode cX7_fill 92 = .ok (.ishr, 1) := by decide +kernel
theorem dX7_fill_93 : decode cX7_fill 93 = .ok (.sipush 255, 3) := by decide +kernel
theorem dX7_fill_96 : decode cX7_fill 96 = .ok (.iand, 1) := by decide +kernel
theorem dX7_fill_97 : decode cX7_fill 97 = .ok (.iastore, 1) := by decide +kernel
theorem dX7_fill_98 : decode cX7_fill 98 = .ok (.iinc 7 1, 3) := by decide +kernel
theorem dX7_fill_101 : decode cX7_fill 101 = .ok (.goto (-33), 3) := by decide +kernel
theorem dX7_fill_104 : decode cX7_fill 104 = .ok (.aload_n 0, 1) := by decide +kernel
theorem dX7_fill_105 : decode cX7_fill 105 = .ok (.getfield 86, 3) := by decide +kernel
theorem dX7_fill_108 : decode cX7_fill 108 = .ok (.bipush 9, 2) := by decide +kernel
theorem dX7_fill_110 : decode cX7_fill 110 = .ok (.iload 6, 2) := by decide +kernel
theorem dX7_fill_112 : decode cX7_fill 112 = .ok (.sipush 256, 3) := by decide +kernel
theorem dX7_fill_115 : decode cX7_fill 115 = .ok (.idiv, 1) := by decide +kernel
theorem dX7_fill_116 : decode cX7_fill 116 = .ok (.iastore, 1) := by decide +kernel
theorem dX7_fill_117 : decode cX7_fill 117 = .ok (.aload_n 0, 1) := by decide +kernel
theorem dX7_fill_118 : decode cX7_fill 118 = .ok (.getfield 86, 3) := by decide +kernel
theorem dX7_fill_121 : decode cX7_fill 121 = .ok (.bipush 10, 2) := by decide +kernel
theorem dX7_fill_123 : decode cX7_fill 123 = .ok (.iload 6, 2) := by decide +kernel
theorem dX7_fill_125 : decode cX7_fill 125 = .ok (.sipush 256, 3) := by decide +kernel
theorem dX7_fill_128 : decode cX7_fill 128 = .ok (.irem, 1) := by decide +kernel
theorem dX7_fill_129 : decode cX7_fill 129 = .ok (.iastore, 1) := by decide +kernel
theorem dX7_fill_130 : decode cX7_fill 130 = .ok (.return_, 1) := by decide +kernel
theorem dX7_sum_0 : decode cX7_sum 0 = .ok (.iload_n 1, 1) := by decide +kernel
theorem dX7_sum_1 : decode cX7_sum 1 = .ok (.iconst 3, 1) := by decide +kernel
theorem dX7_sum_2 : decode cX7_sum 2 = .ok (.if_icmp .ne 8, 3) := by decide +kernel
theorem dX7_sum_5 : decode cX7_sum 5 = .ok (.bipush 6, 2) := by decide +kernel
theorem dX7_sum_7 : decode cX7_sum 7 = .ok (.goto 17, 3) := by decide +kernel
theorem dX7_sum_10 : decode cX7_sum 10 = .ok (.iload_n 1, 1) := by decide +kernel
theorem dX7_sum_11 : decode cX7_sum 11 = .ok (.bipush 7, 2) := by decide +kernel
theorem dX7_sum_13 : decode cX7_sum 13 = .ok (.if_icmp .ne 8, 3) := by decide +kernel
theorem dX7_sum_16 : decode cX7_sum 16 = .ok (.bipush 121, 2) := by decide +kernel
theorem dX7_sum_18 : decode cX7_sum 18 = .ok (.goto 6, 3) := by decide +kernel
theorem dX7_sum_21 : decode cX7_sum 21 = .ok (.sipush 224, 3) := by decide +kernel
theorem dX7_sum_24 : decode cX7_sum 24 = .ok (.istore_n 3, 1) := by decide +kernel
theorem dX7_sum_25 : decode cX7_sum 25 = .ok (.iconst 1, 1) := by decide +kernel
theorem dX7_sum_26 : decode cX7_sum 26 = .ok (.iload_n 1, 1) := by decide +kernel
theorem dX7_sum_27 : decode cX7_sum 27 = .ok (.ishl, 1) := by decide +kernel
theorem dX7_sum_28 : decode cX7_sum 28 = .ok (.iconst 1, 1) := by decide +kernel
theorem dX7_sum_29 : decode cX7_sum 29 = .ok (.isub, 1) := by decide +kernel
theorem dX7_sum_30 : decode cX7_sum 30 = .ok (.istore 4, 2) := by decide +kernel
theorem dX7_sum_32 : decode cX7_sum 32 = .ok (.iconst 0, 1) := by decide +kernel
theorem dX7_sum_33 : decode cX7_sum 33 = .ok (.istore 5, 2) := by decide +kernel
theorem dX7_sum_35 : decode cX7_sum 35 = .ok (.iload 5, 2) := by decide +kernel
theorem dX7_sum_37 : decode cX7_sum 37 = .ok (.iload_n 2, 1) := by decide +kernel
theorem dX7_sum_38 : decode cX7_sum 38 = .ok (.if_icmp .ge 73, 3) := by decide +kernel
theorem dX7_sum_41 : decode cX7_sum 41 = .ok (.iconst 0, 1) := by decide +kernel
theorem dX7_sum_42 : decode cX7_sum 42 = .ok (.istore 6, 2) := by decide +kernel
theorem dX7_sum_44 : decode cX7_sum 44 = .ok (.iload 6, 2) := by decide +kernel
theorem dX7_sum_46 : decode cX7_sum 46 = .ok (.bipush 8, 2) := by decide +kernel
theorem dX7_sum_48 : decode cX7_sum 48 = .ok (.if_icmp .ge 57, 3) := by decide +kernel
theorem dX7_sum_51 : decode cX7_sum 51 = .ok (.iload 4, 2) := by decide +kernel
theorem dX7_sum_53 : decode cX7_sum 53 = .ok (.iconst 1, 1) := by decide +kernel
theorem dX7_sum_54 : decode cX7_sum 54 = .ok (.iand, 1) := by decide +kernel
theorem dX7_sum_55 : decode cX7_sum 55 = .ok (.aload_n 0, 1) := by decide +kernel
theorem dX7_sum_56 : decode cX7_sum 56 = .ok (.getfield 86, 3) := by decide +kernel
theorem dX7_sum_59 : decode cX7_sum 59 = .ok (.iload 5, 2) := by decide +kernel
theorem dX7_sum_61 : decode cX7_sum 61 = .ok (.iaload, 1) := by decide +kernel
theorem dX7_sum_62 : decode cX7_sum 62 = .ok (.iload 6, 2) := by decide +kernel
theorem dX7_sum_64 : decode cX7_sum 64 = .ok (.ishr, 1) := by decide +kernel
theorem dX7_sum_65 : decode cX7_sum 65 = .ok (.iconst 1, 1) := by decide +kernel
theorem dX7_sum_66 : decode cX7_sum 66 = .ok (.iand, 1) := by decide +kernel
theorem dX7_sum_67 : decode cX7_sum 67 = .ok (.if_icmp .eq 7, 3) := by decide +kernel
theorem dX7_sum_70 : decode cX7_sum 70 = .ok (.iconst 1, 1) := by decide +kernel
theorem dX7_sum_71 : decode cX7_sum 71 = .ok (.goto 4, 3) := by decide +kernel
theorem dX7_sum_74 : decode cX7_sum 74 = .ok (.iconst 0, 1) := by decide +kernel
theorem dX7_sum_75 : decode cX7_sum 75 = .ok (.istore 7, 2) := by decide +kernel
theorem dX7_sum_77 : decode cX7_sum 77 = .ok (.iload 4, 2) := by decide +kernel
theorem dX7_sum_79 : decode cX7_sum 79 = .ok (.iconst 1, 1) := by decide +kernel
theorem dX7_sum_80 : decode cX7_sum 80 = .ok (.ishr, 1) := by decide +kernel
theorem dX7_sum_81 : decode cX7_sum 81 = .ok (.istore 4, 2) := by decide +kernel
theorem dX7_sum_83 : decode cX7_sum 83 = .ok (.iload 7, 2) := by decide +kernel
theorem dX7_sum_85 : decode cX7_sum 85 = .ok (.ifCond .eq 10, 3) := by decide +kernel
theorem dX7_sum_88 : decode cX7_sum 88 = .ok (.iload 4, 2) := by decide +kernel
theorem dX7_sum_90 : decode cX7_sum 90 = .ok (.iload_n 3, 1) := by decide +kernel
theorem dX7_sum_91 : decode cX7_sum 91 = .ok (.ixor, 1) := by decide +kernel
theorem dX7_sum_92 : decode cX7_sum 92 = .ok (.goto 5, 3) := by decide +kernel
theorem dX7_sum_95 : decode cX7_sum 95 = .ok (.iload 4, 2) := by decide +kernel
theorem dX7_sum_97 : decode cX7_sum 97 = .ok (.istore 4, 2) := by decide +kernel
theorem dX7_sum_99 : decode cX7_sum 99 = .ok (.iinc 6 1, 3) := by decide +kernel
theorem dX7_sum_102 : decode cX7_sum 102 = .ok (.goto (-58), 3) := by decide +kernel
theorem dX7_sum_105 : decode cX7_sum 105 = .ok (.iinc 5 1, 3) := by decide +kernel
theorem dX7_sum_108 : decode cX7_sum 108 = .ok (.goto (-73), 3) := by decide +kernel
theorem dX7_sum_111 : decode cX7_sum 111 = .ok (.iload 4, 2) := by decide +kernel
theorem dX7_sum_113 : decode cX7_sum 113 = .ok (.ireturn, 1) := by decide +kernel
theorem dX7_bitsOf_0 : decode cX7_bitsOf 0 = .ok (.iload_n 1, 1) := by decide +kernel
theorem dX7_bitsOf_1 : decode cX7_bitsOf 1 = .ok (.ifCond .ne 7, 3) := by decide +kernel
theorem dX7_bitsOf_4 : decode cX7_bitsOf 4 = .ok (.iconst 4, 1) := by decide +kernel
theorem dX7_bitsOf_5 : decode cX7_bitsOf 5 = .ok (.goto 15, 3) := by decide +kernel
theorem dX7_bitsOf_8 : decode cX7_bitsOf 8 = .ok (.iload_n 1, 1) := by decide +kernel
theorem dX7_bitsOf_9 : decode cX7_bitsOf 9 = .ok (.iconst 1, 1) := by decide +kernel
theorem dX7_bitsOf_10 : decode cX7_bitsOf 10 = .ok (.if_icmp .ne 8, 3) := by decide +kernel
theorem dX7_bitsOf_13 : decode cX7_bitsOf 13 = .ok (.bipush 6, 2) := by decide +kernel
theorem dX7_bitsOf_15 : decode cX7_bitsOf 15 = .ok (.goto 5, 3) := by decide +kernel
theorem dX7_bitsOf_18 : decode cX7_bitsOf 18 = .ok (.bipush 10, 2) := by decide +kernel
theorem dX7_bitsOf_20 : decode cX7_bitsOf 20 = .ok (.ireturn, 1) := by decide +kernel
theorem dX7_backOf_0 : decode cX7_backOf 0 = .ok (.iload_n 1, 1) := by decide +kernel
theorem dX7_backOf_1 : decode cX7_backOf 1 = .ok (.ifCond .ne 7, 3) := by decide +kernel
theorem dX7_backOf_4 : decode cX7_backOf 4 = .ok (.iconst 1, 1) := by decide +kernel
theorem dX7_backOf_5 : decode cX7_backOf 5 = .ok (.goto 14, 3) := by decide +kernel
theorem dX7_backOf_8 : decode cX7_backOf 8 = .ok (.iload_n 1, 1) := by decide +kernel
theorem dX7_backOf_9 : decode cX7_backOf 9 = .ok (.iconst 1, 1) := by decide +kernel
theorem dX7_backOf_10 : decode cX7_backOf 10 = .ok (.if_icmp .ne 7, 3) := by decide +kernel
theorem dX7_backOf_13 : decode cX7_backOf 13 = .ok (.iconst 3, 1) := by decide +kernel
theorem dX7_backOf_14 : decode cX7_backOf 14 = .ok (.goto 5, 3) := by decide +kernel
theorem dX7_backOf_17 : decode cX7_backOf 17 = .ok (.bipush 31, 2) := by decide +kernel
theorem dX7_backOf_19 : decode cX7_backOf 19 = .ok (.ireturn, 1) := by decide +kernel
