theorem dX2_tradersWhoMake_12 : decode cX2_tradersWhoMake 12 = .ok (.aload_n 0, 1) := by decide +kernel
theorem dX2_tradersWhoMake_13 : decode cX2_tradersWhoMake 13 = .ok (.getfield 9, 3) := by decide +kernel
theorem dX2_tradersWhoMake_16 : decode cX2_tradersWhoMake 16 = .ok (.iload_n 3, 1) := by decide +kernel
theorem dX2_tradersWhoMake_17 : decode cX2_tradersWhoMake 17 = .ok (.iaload, 1) := by decide +kernel
theorem dX2_tradersWhoMake_18 : decode cX2_tradersWhoMake 18 = .ok (.iload_n 1, 1) := by decide +kernel
theorem dX2_tradersWhoMake_19 : decode cX2_tradersWhoMake 19 = .ok (.if_icmp .ne 6, 3) := by decide +kernel
theorem dX2_tradersWhoMake_22 : decode cX2_tradersWhoMake 22 = .ok (.iinc 2 1, 3) := by decide +kernel
theorem dX2_tradersWhoMake_25 : decode cX2_tradersWhoMake 25 = .ok (.iinc 3 1, 3) := by decide +kernel
theorem dX2_tradersWhoMake_28 : decode cX2_tradersWhoMake 28 = .ok (.goto (-24), 3) := by decide +kernel
theorem dX2_tradersWhoMake_31 : decode cX2_tradersWhoMake 31 = .ok (.iload_n 2, 1) := by decide +kernel
theorem dX2_tradersWhoMake_32 : decode cX2_tradersWhoMake 32 = .ok (.ireturn, 1) := by decide +kernel
theorem dX2_stuckTraders_0 : decode cX2_stuckTraders 0 = .ok (.iconst 0, 1) := by decide +kernel
theorem dX2_stuckTraders_1 : decode cX2_stuckTraders 1 = .ok (.istore_n 1, 1) := by decide +kernel
theorem dX2_stuckTraders_2 : decode cX2_stuckTraders 2 = .ok (.iconst 0, 1) := by decide +kernel
theorem dX2_stuckTraders_3 : decode cX2_stuckTraders 3 = .ok (.istore_n 2, 1) := by decide +kernel
theorem dX2_stuckTraders_4 : decode cX2_stuckTraders 4 = .ok (.iload_n 2, 1) := by decide +kernel
theorem dX2_stuckTraders_5 : decode cX2_stuckTraders 5 = .ok (.aload_n 0, 1) := by decide +kernel
theorem dX2_stuckTraders_6 : decode cX2_stuckTraders 6 = .ok (.getfield 61, 3) := by decide +kernel
theorem dX2_stuckTraders_9 : decode cX2_stuckTraders 9 = .ok (.if_icmp .ge 29, 3) := by decide +kernel
theorem dX2_stuckTraders_12 : decode cX2_stuckTraders 12 = .ok (.aload_n 0, 1) := by decide +kernel
theorem dX2_stuckTraders_13 : decode cX2_stuckTraders 13 = .ok (.getfield 15, 3) := by decide +kernel
theorem dX2_stuckTraders_16 : decode cX2_stuckTraders 16 = .ok (.iload_n 2, 1) := by decide +kernel
theorem dX2_stuckTraders_17 : decode cX2_stuckTraders 17 = .ok (.iaload, 1) := by decide +kernel
theorem dX2_stuckTraders_18 : decode cX2_stuckTraders 18 = .ok (.ifCond .eq 14, 3) := by decide +kernel
theorem dX2_stuckTraders_21 : decode cX2_stuckTraders 21 = .ok (.aload_n 0, 1) := by decide +kernel
theorem dX2_stuckTraders_22 : decode cX2_stuckTraders 22 = .ok (.iload_n 2, 1) := by decide +kernel
theorem dX2_stuckTraders_23 : decode cX2_stuckTraders 23 = .ok (.invokevirtual 135, 3) := by decide +kernel
theorem dX2_stuckTraders_26 : decode cX2_stuckTraders 26 = .ok (.ifCond .ne 6, 3) := by decide +kernel
theorem dX2_stuckTraders_29 : decode cX2_stuckTraders 29 = .ok (.iinc 1 1, 3) := by decide +kernel
theorem dX2_stuckTraders_32 : decode cX2_stuckTraders 32 = .ok (.iinc 2 1, 3) := by decide +kernel
theorem dX2_stuckTraders_35 : decode cX2_stuckTraders 35 = .ok (.goto (-31), 3) := by decide +kernel
theorem dX2_stuckTraders_38 : decode cX2_stuckTraders 38 = .ok (.iload_n 1, 1) := by decide +kernel
theorem dX2_stuckTraders_39 : decode cX2_stuckTraders 39 = .ok (.ireturn, 1) := by decide +kernel
theorem dX3_init_0 : decode cX3_init 0 = .ok (.aload_n 0, 1) := by decide +kernel
theorem dX3_init_1 : decode cX3_init 1 = .ok (.invokespecial 3, 3) := by decide +kernel
theorem dX3_init_4 : decode cX3_init 4 = .ok (.aload_n 0, 1) := by decide +kernel
theorem dX3_init_5 : decode cX3_init 5 = .ok (.bipush 60, 2) := by decide +kernel
theorem dX3_init_7 : decode cX3_init 7 = .ok (.newarray .char, 2) := by decide +kernel
theorem dX3_init_9 : decode cX3_init 9 = .ok (.putfield 9, 3) := by decide +kernel
theorem dX3_init_12 : decode cX3_init 12 = .ok (.return_, 1) := by decide +kernel
theorem dX4_init_0 : decode cX4_init 0 = .ok (.aload_n 0, 1) := by decide +kernel
theorem dX4_init_1 : decode cX4_init 1 = .ok (.invokespecial 3, 3) := by decide +kernel
theorem dX4_init_4 : decode cX4_init 4 = .ok (.aload_n 0, 1) := by decide +kernel
theorem dX4_init_5 : decode cX4_init 5 = .ok (.bipush 7, 2) := by decide +kernel
theorem dX4_init_7 : decode cX4_init 7 = .ok (.newarray .int, 2) := by decide +kernel
theorem dX4_init_9 : decode cX4_init 9 = .ok (.putfield 9, 3) := by decide +kernel
theorem dX4_init_12 : decode cX4_init 12 = .ok (.aload_n 0, 1) := by decide +kernel
theorem dX4_init_13 : decode cX4_init 13 = .ok (.bipush 7, 2) := by decide +kernel
theorem dX4_init_15 : decode cX4_init 15 = .ok (.newarray .int, 2) := by decide +kernel
theorem dX4_init_17 : decode cX4_init 17 = .ok (.putfield 15, 3) := by decide +kernel
theorem dX4_init_20 : decode cX4_init 20 = .ok (.aload_n 0, 1) := by decide +kernel
theorem dX4_init_21 : decode cX4_init 21 = .ok (.bipush 7, 2) := by decide +kernel
theorem dX4_init_23 : decode cX4_init 23 = .ok (.newarray .int, 2) := by decide +kernel
theorem dX4_init_25 : decode cX4_init 25 = .ok (.putfield 18, 3) := by decide +kernel
theorem dX4_init_28 : decode cX4_init 28 = .ok (.return_, 1) := by decide +kernel
theorem dX4_findBest_0 : decode cX4_findBest 0 = .ok (.aload_n 0, 1) := by decide +kernel
theorem dX4_findBest_1 : decode cX4_findBest 1 = .ok (.iconst 0, 1) := by decide +kernel
theorem dX4_findBest_2 : decode cX4_findBest 2 = .ok (.aload_n 1, 1) := by decide +kernel
theorem dX4_findBest_3 : decode cX4_findBest 3 = .ok (.getfield 21, 3) := by decide +kernel
theorem dX4_findBest_6 : decode cX4_findBest 6 = .ok (.bipush 7, 2) := by decide +kernel
theorem dX4_findBest_8 : decode cX4_findBest 8 = .ok (.invokestatic 27, 3) := by decide +kernel
theorem dX4_findBest_11 : decode cX4_findBest 11 = .ok (.invokestatic 33, 3) := by decide +kernel
theorem dX4_findBest_14 : decode cX4_findBest 14 = .ok (.putfield 36, 3) := by decide +kernel
theorem dX4_findBest_17 : decode cX4_findBest 17 = .ok (.aload_n 0, 1) := by decide +kernel
theorem dX4_findBest_18 : decode cX4_findBest 18 = .ok (.aload_n 1, 1) := by decide +kernel
theorem dX4_findBest_19 : decode cX4_findBest 19 = .ok (.getfield 37, 3) := by decide +kernel
theorem dX4_findBest_22 : decode cX4_findBest 22 = .ok (.putfield 40, 3) := by decide +kernel
theorem dX4_findBest_25 : decode cX4_findBest 25 = .ok (.aload_n 0, 1) := by decide +kernel
theorem dX4_findBest_26 : decode cX4_findBest 26 = .ok (.iconst (-1), 1) := by decide +kernel
theorem dX4_findBest_27 : decode cX4_findBest 27 = .ok (.putfield 41, 3) := by decide +kernel
theorem dX4_findBest_30 : decode cX4_findBest 30 = .ok (.iconst 0, 1) := by decide +kernel
theorem dX4_findBest_31 : decode cX4_findBest 31 = .ok (.istore_n 2, 1) := by decide +kernel
theorem dX4_findBest_32 : decode cX4_findBest 32 = .ok (.iload_n 2, 1) := by decide +kernel
theorem dX4_findBest_33 : decode cX4_findBest 33 = .ok (.aload_n 0, 1) := by decide +kernel
theorem dX4_findBest_34 : decode cX4_findBest 34 = .ok (.getfield 36, 3) := by decide +kernel
theorem dX4_findBest_37 : decode cX4_findBest 37 = .ok (.if_icmp .ge 20, 3) := by decide +kernel
theorem dX4_findBest_40 : decode cX4_findBest 40 = .ok (.aload_n 0, 1) := by decide +kernel
theorem dX4_findBest_41 : decode cX4_findBest 41 = .ok (.getfield 15, 3) := by decide +kernel
theorem dX4_findBest_44 : decode cX4_findBest 44 = .ok (.iload_n 2, 1) := by decide +kernel
theorem dX4_findBest_45 : decode cX4_findBest 45 = .ok (.aload_n 1, 1) := by decide +kernel
theorem dX4_findBest_46 : decode cX4_findBest 46 = .ok (.iload_n 2, 1) := by decide +kernel
theorem dX4_findBest_47 : decode cX4_findBest 47 = .ok (.invokevirtual 44, 3) := by decide +kernel
theorem dX4_findBest_50 : decode cX4_findBest 50 = .ok (.iastore, 1) := by decide +kernel
theorem dX4_findBest_51 : decode cX4_findBest 51 = .ok (.iinc 2 1, 3) := by decide +kernel
theorem dX4_findBest_54 : decode cX4_findBest 54 = .ok (.goto (-22), 3) := by decide +kernel
theorem dX4_findBest_57 : decode cX4_findBest 57 = .ok (.aload_n 0, 1) := by decide +kernel
theorem dX4_findBest_58 : decode cX4_findBest 58 = .ok (.iconst 0, 1) := by decide +kernel
theorem dX4_findBest_59 : decode cX4_findBest 59 = .ok (.iconst 0, 1) := by decide +kernel
theorem dX4_findBest_60 : decode cX4_findBest 60 = .ok (.iconst 0, 1) := by decide +kernel
theorem dX4_findBest_61 : decode cX4_findBest 61 = .ok (.invokevirtual 47, 3) := by decide +kernel
theorem dX4_findBest_64 : decode cX4_findBest 64 = .ok (.aload_n 0, 1) := by decide +kernel
theorem dX4_findBest_65 : decode cX4_findBest 65 = .ok (.getfield 41, 3) := by decide +kernel
theorem dX4_findBest_68 : decode cX4_findBest 68 = .ok (.ireturn, 1) := by decide +kernel
theorem dX4_chooseGiver_0 : decode cX4_chooseGiver 0 = .ok (.iload_n 2, 1) := by decide +kernel
theorem dX4_chooseGiver_1 : decode cX4_chooseGiver 1 = .ok (.aload_n 0, 1) := by decide +kernel
theorem dX4_chooseGiver_2 : decode cX4_chooseGiver 2 = .ok (.getfield 36, 3) := by decide +kernel
theorem dX4_chooseGiver_5 : decode cX4_chooseGiver 5 = .ok (.iadd, 1) := by decide +kernel
theorem dX4_chooseGiver_6 : decode cX4_chooseGiver 6 = .ok (.iload_n 1, 1) := by decide +kernel
theorem dX4_chooseGiver_7 : decode cX4_chooseGiver 7 = .ok (.isub, 1) := by decide +kernel
theorem dX4_chooseGiver_8 : decode cX4_chooseGiver 8 = .ok (.aload_n 0, 1) := by decide +kernel
theorem dX4_chooseGiver_9 : decode cX4_chooseGiver 9 = .ok (.getfield 41, 3) := by decide +kernel
theorem dX4_chooseGiver_12 : decode cX4_chooseGiver 12 = .ok (.if_icmp .gt 4, 3) := by decide +kernel
theorem dX4_chooseGiver_15 : decode cX4_chooseGiver 15 = .ok (.return_, 1) := by decide +kernel
theorem dX4_chooseGiver_16 : decode cX4_chooseGiver 16 = .ok (.iload_n 1, 1) := by decide +kernel
theorem dX4_chooseGiver_17 : decode cX4_chooseGiver 17 = .ok (.ifCond .lt 11, 3) := by decide +kernel
theorem dX4_chooseGiver_20 : decode cX4_chooseGiver 20 = .ok (.iload_n 1, 1) := by decide +kernel
theorem dX4_chooseGiver_21 : decode cX4_chooseGiver 21 = .ok (.aload_n 0, 1) := by decide +kernel
theorem dX4_chooseGiver_22 : decode cX4_chooseGiver 22 = .ok (.getfield 36, 3) := by decide +kernel
theorem dX4_chooseGiver_25 : decode cX4_chooseGiver 25 = .ok (.if_icmp .lt 24, 3) := by decide +kernel
theorem dX4_chooseGiver_28 : decode cX4_chooseGiver 28 = .ok (.aload_n 0, 1) := by decide +kernel
theorem dX4_chooseGiver_29 : decode cX4_chooseGiver 29 = .ok (.iload_n 2, 1) := by decide +kernel
theorem dX4_chooseGiver_30 : decode cX4_chooseGiver 30 = .ok (.putfield 41, 3) := by decide +kernel
theorem dX4_chooseGiver_33 : decode cX4_chooseGiver 33 = .ok (.aload_n 0, 1) := by decide +kernel
theorem dX4_chooseGiver_34 : decode cX4_chooseGiver 34 = .ok (.getfield 18, 3) := by decide +kernel
theorem dX4_chooseGiver_37 : decode cX4_chooseGiver 37 = .ok (.iconst 0, 1) := by decide +kernel
theorem dX4_chooseGiver_38 : decode cX4_chooseGiver 38 = .ok (.aload_n 0, 1) := by decide +kernel
theorem dX4_chooseGiver_39 : decode cX4_chooseGiver 39 = .ok (.getfield 9, 3) := by decide +kernel
theorem dX4_chooseGiver_42 : decode cX4_chooseGiver 42 = .ok (.iconst 0, 1) := by decide +kernel
theorem dX4_chooseGiver_43 : decode cX4_chooseGiver 43 = .ok (.bipush 7, 2) := by decide +kernel
theorem dX4_chooseGiver_45 : decode cX4_chooseGiver 45 = .ok (.invokestatic 51, 3) := by decide +kernel
theorem dX4_chooseGiver_48 : decode cX4_chooseGiver 48 = .ok (.return_, 1) := by decide +kernel
theorem dX4_chooseGiver_49 : decode cX4_chooseGiver 49 = .ok (.iconst 0, 1) := by decide +kernel
theorem dX4_chooseGiver_50 : decode cX4_chooseGiver 50 = .ok (.istore 4, 2) := by decide +kernel
theorem dX4_chooseGiver_52 : decode cX4_chooseGiver 52 = .ok (.iload 4, 2) := by decide +kernel
theorem dX4_chooseGiver_54 : decode cX4_chooseGiver 54 = .ok (.aload_n 0, 1) := by decide +kernel
theorem dX4_chooseGiver_55 : decode cX4_chooseGiver 55 = .ok (.getfield 36, 3) := by decide +kernel
theorem dX4_chooseGiver_58 : decode cX4_chooseGiver 58 = .ok (.if_icmp .ge 53, 3) := by decide +kernel
theorem dX4_chooseGiver_61 : decode cX4_chooseGiver 61 = .ok (.aload_n 0, 1) := by decide +kernel
theorem dX4_chooseGiver_62 : decode cX4_chooseGiver 62 = .ok (.getfield 15, 3) := by decide +kernel
theorem dX4_chooseGiver_65 : decode cX4_chooseGiver 65 = .ok (.iload_n 1, 1) := by decide +kernel
theorem dX4_chooseGiver_66 : decode cX4_chooseGiver 66 = .ok (.iaload, 1) := by decide +kernel
theorem dX4_chooseGiver_67 : decode cX4_chooseGiver 67 = .ok (.iload_n 3, 1) := by decide +kernel
theorem dX4_chooseGiver_68 : decode cX4_chooseGiver 68 = .ok (.iconst (-1), 1) := by decide +kernel
theorem dX4_chooseGiver_69 : decode cX4_chooseGiver 69 = .ok (.ixor, 1) := by decide +kernel
theorem dX4_chooseGiver_70 : decode cX4_chooseGiver 70 = .ok (.iand, 1) := by decide +kernel
theorem dX4_chooseGiver_71 : decode cX4_chooseGiver 71 = .ok (.iload 4, 2) := by decide +kernel
theorem dX4_chooseGiver_73 : decode cX4_chooseGiver 73 = .ok (.invokestatic 57, 3) := by decide +kernel
theorem dX4_chooseGiver_76 : decode cX4_chooseGiver 76 = .ok (.ifCond .eq 29, 3) := by decide +kernel
theorem dX4_chooseGiver_79 : decode cX4_chooseGiver 79 = .ok (.aload_n 0, 1) := by decide +kernel
theorem dX4_chooseGiver_80 : decode cX4_chooseGiver 80 = .ok (.iload_n 1, 1) := by decide +kernel
theorem dX4_chooseGiver_81 : decode cX4_chooseGiver 81 = .ok (.iload 4, 2) := by decide +kernel
theorem dX4_chooseGiver_83 : decode cX4_chooseGiver 83 = .ok (.invokevirtual 61, 3) := by decide +kernel
theorem dX4_chooseGiver_86 : decode cX4_chooseGiver 86 = .ok (.ifCond .eq 19, 3) := by decide +kernel
theorem dX4_chooseGiver_89 : decode cX4_chooseGiver 89 = .ok (.aload_n 0, 1) := by decide +kernel
theorem dX4_chooseGiver_90 : decode cX4_chooseGiver 90 = .ok (.iload_n 1, 1) := by decide +kernel
theorem dX4_chooseGiver_91 : decode cX4_chooseGiver 91 = .ok (.iload 4, 2) := by decide +kernel
theorem dX4_chooseGiver_93 : decode cX4_chooseGiver 93 = .ok (.iload_n 2, 1) := by decide +kernel
theorem dX4_chooseGiver_94 : decode cX4_chooseGiver 94 = .ok (.iconst 1, 1) := by decide +kernel
theorem dX4_chooseGiver_95 : decode cX4_chooseGiver 95 = .ok (.iadd, 1) := by decide +kernel
theorem dX4_chooseGiver_96 : decode cX4_chooseGiver 96 = .ok (.iload_n 3, 1) := by decide +kernel
theorem dX4_chooseGiver_97 : decode cX4_chooseGiver 97 = .ok (.iload 4, 2) := by decide +kernel
theorem dX4_chooseGiver_99 : decode cX4_chooseGiver 99 = .ok (.invokestatic 64, 3) := by decide +kernel
theorem dX4_chooseGiver_102 : decode cX4_chooseGiver 102 = .ok (.invokevirtual 67, 3) := by decide +kernel
theorem dX4_chooseGiver_105 : decode cX4_chooseGiver 105 = .ok (.iinc 4 1, 3) := by decide +kernel
theorem dX4_chooseGiver_108 : decode cX4_chooseGiver 108 = .ok (.goto (-56), 3) := by decide +kernel
theorem dX4_chooseGiver_111 : decode cX4_chooseGiver 111 = .ok (.iload_n 3, 1) := by decide +kernel
theorem dX4_chooseGiver_112 : decode cX4_chooseGiver 112 = .ok (.iload_n 1, 1) := by decide +kernel
theorem dX4_chooseGiver_113 : decode cX4_chooseGiver 113 = .ok (.invokestatic 57, 3) := by decide +kernel
theorem dX4_chooseGiver_116 : decode cX4_chooseGiver 116 = .ok (.ifCond .ne 11, 3) := by decide +kernel
theorem dX4_chooseGiver_119 : decode cX4_chooseGiver 119 = .ok (.aload_n 0, 1) := by decide +kernel
theorem dX4_chooseGiver_120 : decode cX4_chooseGiver 120 = .ok (.iload_n 1, 1) := by decide +kernel
theorem dX4_chooseGiver_121 : decode cX4_chooseGiver 121 = .ok (.iconst (-1), 1) := by decide +kernel
theorem dX4_chooseGiver_122 : decode cX4_chooseGiver 122 = .ok (.iload_n 2, 1) := by decide +kernel
theorem dX4_chooseGiver_123 : decode cX4_chooseGiver 123 = .ok (.iload_n 3, 1) := by decide +kernel
theorem dX4_chooseGiver_124 : decode cX4_chooseGiver 124 = .ok (.invokevirtual 67, 3) := by decide +kernel
theorem dX4_chooseGiver_127 : decode cX4_chooseGiver 127 = .ok (.return_, 1) := by decide +kernel
theorem dX4_goOn_0 : decode cX4_goOn 0 = .ok (.aload_n 0, 1) := by decide +kernel
theorem dX4_goOn_1 : decode cX4_goOn 1 = .ok (.getfield 18, 3) := by decide +kernel
theorem dX4_goOn_4 : decode cX4_goOn 4 = .ok (.iload_n 1, 1) := by decide +kernel
theorem dX4_goOn_5 : decode cX4_goOn 5 = .ok (.iload_n 2, 1) := by decide +kernel
theorem dX4_goOn_6 : decode cX4_goOn 6 = .ok (.iastore, 1) := by decide +kernel
theorem dX4_goOn_7 : decode cX4_goOn 7 = .ok (.aload_n 0, 1) := by decide +kernel
theorem dX4_goOn_8 : decode cX4_goOn 8 = .ok (.iload_n 1, 1) := by decide +kernel
theorem dX4_goOn_9 : decode cX4_goOn 9 = .ok (.iconst 1, 1) := by decide +kernel
theorem dX4_goOn_10 : decode cX4_goOn 10 = .ok (.iadd, 1) := by decide +kernel
theorem dX4_goOn_11 : decode cX4_goOn 11 = .ok (.iload_n 3, 1) := by decide +kernel
theorem dX4_goOn_12 : decode cX4_goOn 12 = .ok (.iload 4, 2) := by decide +kernel
theorem dX4_goOn_14 : decode cX4_goOn 14 = .ok (.invokevirtual 47, 3) := by decide +kernel
theorem dX4_goOn_17 : decode cX4_goOn 17 = .ok (.return_, 1) := by decide +kernel
theorem dX4_fitsInCircle_0 : decode cX4_fitsInCircle 0 = .ok (.iload_n 2, 1) := by decide +kernel
theorem dX4_fitsInCircle_1 : decode cX4_fitsInCircle 1 = .ok (.istore_n 3, 1) := by decide +kernel
theorem dX4_fitsInCircle_2 : decode cX4_fitsInCircle 2 = .ok (.iconst 1, 1) := by decide +kernel
theorem dX4_fitsInCircle_3 : decode cX4_fitsInCircle 3 = .ok (.istore 4, 2) := by decide +kernel
theorem dX4_fitsInCircle_5 : decode cX4_fitsInCircle 5 = .ok (.iload 4, 2) := by decide +kernel
theorem dX4_fitsInCircle_7 : decode cX4_fitsInCircle 7 = .ok (.aload_n 0, 1) := by decide +kernel
theorem dX4_fitsInCircle_8 : decode cX4_fitsInCircle 8 = .ok (.getfield 40, 3) := by decide +kernel
theorem dX4_fitsInCircle_11 : decode cX4_fitsInCircle 11 = .ok (.if_icmp .gt 49, 3) := by decide +kernel
theorem dX4_fitsInCircle_14 : decode cX4_fitsInCircle 14 = .ok (.iload_n 3, 1) := by decide +kernel
theorem dX4_fitsInCircle_15 : decode cX4_fitsInCircle 15 = .ok (.iload_n 1, 1) := by decide +kernel
theorem dX4_fitsInCircle_16 : decode cX4_fitsInCircle 16 = .ok (.if_icmp .ne 5, 3) := by decide +kernel
theorem dX4_fitsInCircle_19 : decode cX4_fitsInCircle 19 = .ok (.iconst 1, 1) := by decide +kernel
theorem dX4_fitsInCircle_20 : decode cX4_fitsInCircle 20 = .ok (.ireturn, 1) := by decide +kernel
theorem dX4_fitsInCircle_21 : decode cX4_fitsInCircle 21 = .ok (.iload_n 3, 1) := by decide +kernel
theorem dX4_fitsInCircle_22 : decode cX4_fitsInCircle 22 = .ok (.ifCond .ge 5, 3) := by decide +kernel
theorem dX4_fitsInCircle_25 : decode cX4_fitsInCircle 25 = .ok (.iconst 0, 1) := by decide +kernel
theorem dX4_fitsInCircle_26 : decode cX4_fitsInCircle 26 = .ok (.ireturn, 1) := by decide +kernel
theorem dX4_fitsInCircle_27 : decode cX4_fitsInCircle 27 = .ok (.iload_n 3, 1) := by decide +kernel
theorem dX4_fitsInCircle_28 : decode cX4_fitsInCircle 28 = .ok (.iload_n 1, 1) := by decide +kernel
theorem dX4_fitsInCircle_29 : decode cX4_fitsInCircle 29 = .ok (.if_icmp .le 18, 3) := by decide +kernel
theorem dX4_fitsInCircle_32 : decode cX4_fitsInCircle 32 = .ok (.iload 4, 2) := by decide +kernel
theorem dX4_fitsInCircle_34 : decode cX4_fitsInCircle 34 = .ok (.aload_n 0, 1) := by decide +kernel
theorem dX4_fitsInCircle_35 : decode cX4_fitsInCircle 35 = .ok (.getfield 40, 3) := by decide +kernel
theorem dX4_fitsInCircle_38 : decode cX4_fitsInCircle 38 = .ok (.if_icmp .ge 7, 3) := by decide +kernel
theorem dX4_fitsInCircle_41 : decode cX4_fitsInCircle 41 = .ok (.iconst 1, 1) := by decide +kernel
theorem dX4_fitsInCircle_42 : decode cX4_fitsInCircle 42 = .ok (.goto 4, 3) := by decide +kernel
theorem dX4_fitsInCircle_45 : decode cX4_fitsInCircle 45 = .ok (.iconst 0, 1) := by decide +kernel
theorem dX4_fitsInCircle_46 : decode cX4_fitsInCircle 46 = .ok (.ireturn, 1) := by decide +kernel
theorem dX4_fitsInCircle_47 : decode cX4_fitsInCircle 47 = .ok (.aload_n 0, 1) := by decide +kernel
theorem dX4_fitsInCircle_48 : decode cX4_fitsInCircle 48 = .ok (.getfield 18, 3) := by decide +kernel
theorem dX4_fitsInCircle_51 : decode cX4_fitsInCircle 51 = .ok (.iload_n 3, 1) := by decide +kernel
theorem dX4_fitsInCircle_52 : decode cX4_fitsInCircle 52 = .ok (.iaload, 1) := by decide +kernel
theorem dX4_fitsInCircle_53 : decode cX4_fitsInCircle 53 = .ok (.istore_n 3, 1) := by decide +kernel
theorem dX4_fitsInCircle_54 : decode cX4_fitsInCircle 54 = .ok (.iinc 4 1, 3) := by decide +kernel
theorem dX4_fitsInCircle_57 : decode cX4_fitsInCircle 57 = .ok (.goto (-52), 3) := by decide +kernel
theorem dX4_fitsInCircle_60 : decode cX4_fitsInCircle 60 = .ok (.iconst 0, 1) := by decide +kernel
theorem dX4_fitsInCircle_61 : decode cX4_fitsInCircle 61 = .ok (.ireturn, 1) := by decide +kernel
theorem dX5_init_0 : decode cX5_init 0 = .ok (.aload_n 0, 1) := by decide +kernel
theorem dX5_init_1 : decode cX5_init 1 = .ok (.invokespecial 1, 3) := by decide +kernel
theorem dX5_init_4 : decode cX5_init 4 = .ok (.aload_n 0, 1) := by decide +kernel
theorem dX5_init_5 : decode cX5_init 5 = .ok (.new 7, 3) := by decide +kernel
theorem dX5_init_8 : decode cX5_init 8 = .ok (.dup, 1) := by decide +kernel
theorem dX5_init_9 : decode cX5_init 9 = .ok (.invokespecial 9, 3) := by decide +kernel
theorem dX5_init_12 : decode cX5_init 12 = .ok (.putfield 10, 3) := by decide +kernel
theorem dX5_init_15 : decode cX5_init 15 = .ok (.aload_n 0, 1) := by decide +kernel
theorem dX5_init_16 : decode cX5_init 16 = .ok (.new 7, 3) := by decide +kernel
theorem dX5_init_19 : decode cX5_init 19 = .ok (.dup, 1) := by decide +kernel
theorem dX5_init_20 : decode cX5_init 20 = .ok (.invokespecial 9, 3) := by decide +kernel
theorem dX5_init_23 : decode cX5_init 23 = .ok (.putfield 16, 3) := by decide +kernel
theorem dX5_init_26 : decode cX5_init 26 = .ok (.aload_n 0, 1) := by decide +kernel
theorem dX5_init_27 : decode cX5_init 27 = .ok (.new 7, 3) := by decide +kernel
theorem dX5_init_30 : decode cX5_init 30 = .ok (.dup, 1) := by decide +kernel
theorem dX5_init_31 : decode cX5_init 31 = .ok (.invokespecial 9, 3) := by decide +kernel
theorem dX5_init_34 : decode cX5_init 34 = .ok (.putfield 19, 3) := by decide +kernel
theorem dX5_init_37 : decode cX5_init 37 = .ok (.aload_n 0, 1) := by decide +kernel
theorem dX5_init_38 : decode cX5_init 38 = .ok (.new 22, 3) := by decide +kernel
theorem dX5_init_41 : decode cX5_init 41 = .ok (.dup, 1) := by decide +kernel
theorem dX5_init_42 : decode cX5_init 42 = .ok (.invokespecial 24, 3) := by decide +kernel
theorem dX5_init_45 : decode cX5_init 45 = .ok (.putfield 25, 3) := by decide +kernel
theorem dX5_init_48 : decode cX5_init 48 = .ok (.aload_n 0, 1) := by decide +kernel
theorem dX5_init_49 : decode cX5_init 49 = .ok (.new 29, 3) := by decide +kernel
theorem dX5_init_52 : decode cX5_init 52 = .ok (.dup, 1) := by decide +kernel
theorem dX5_init_53 : decode cX5_init 53 = .ok (.invokespecial 31, 3) := by decide +kernel
theorem dX5_init_56 : decode cX5_init 56 = .ok (.putfield 32, 3) := by decide +kernel
theorem dX5_init_59 : decode cX5_init 59 = .ok (.aload_n 0, 1) := by decide +kernel
theorem dX5_init_60 : decode cX5_init 60 = .ok (.new 36, 3) := by decide +kernel
theorem dX5_init_63 : decode cX5_init 63 = .ok (.dup, 1) := by decide +kernel
theorem dX5_init_64 : decode cX5_init 64 = .ok (.invokespecial 38, 3) := by decide +kernel
theorem dX5_init_67 : decode cX5_init 67 = .ok (.putfield 39, 3) := by decide +kernel
theorem dX5_init_70 : decode cX5_init 70 = .ok (.aload_n 0, 1) := by decide +kernel
theorem dX5_init_71 : decode cX5_init 71 = .ok (.new 43, 3) := by decide +kernel
theorem dX5_init_74 : decode cX5_init 74 = .ok (.dup, 1) := by decide +kernel
theorem dX5_init_75 : decode cX5_init 75 = .ok (.invokespecial 45, 3) := by decide +kernel
theorem dX5_init_78 : decode cX5_init 78 = .ok (.putfield 46, 3) := by decide +kernel
theorem dX5_init_81 : decode cX5_init 81 = .ok (.aload_n 0, 1) := by decide +kernel
theorem dX5_init_82 : decode cX5_init 82 = .ok (.iconst (-1), 1) := by decide +kernel
theorem dX5_init_83 : decode cX5_init 83 = .ok (.putfield 50, 3) := by decide +kernel
theorem dX5_init_86 : decode cX5_init 86 = .ok (.return_, 1) := by decide +kernel
theorem dX5_come_0 : decode cX5_come 0 = .ok (.iload_n 1, 1) := by decide +kernel
theorem dX5_come_1 : decode cX5_come 1 = .ok (.invokestatic 54, 3) := by decide +kernel
theorem dX5_come_4 : decode cX5_come 4 = .ok (.ifCond .eq 10, 3) := by decide +kernel
theorem dX5_come_7 : decode cX5_come 7 = .ok (.iload_n 2, 1) := by decide +kernel
theorem dX5_come_8 : decode cX5_come 8 = .ok (.invokestatic 58, 3) := by decide +kernel
theorem dX5_come_11 : decode cX5_come 11 = .ok (.ifCond .ne 5, 3) := by decide +kernel
theorem dX5_come_14 : decode cX5_come 14 = .ok (.iconst (-1), 1) := by decide +kernel
theorem dX5_come_15 : decode cX5_come 15 = .ok (.ireturn, 1) := by decide +kernel
theorem dX5_come_16 : decode cX5_come 16 = .ok (.aload_n 0, 1) := by decide +kernel
theorem dX5_come_17 : decode cX5_come 17 = .ok (.getfield 10, 3) := by decide +kernel
theorem dX5_come_20 : decode cX5_come 20 = .ok (.getfield 61, 3) := by decide +kernel
theorem dX5_come_23 : decode cX5_come 23 = .ok (.bipush 7, 2) := by decide +kernel
theorem dX5_come_25 : decode cX5_come 25 = .ok (.if_icmp .lt 6, 3) := by decide +kernel
theorem dX5_come_28 : decode cX5_come 28 = .ok (.bipush (-3), 2) := by decide +kernel
theorem dX5_come_30 : decode cX5_come 30 = .ok (.ireturn, 1) := by decide +kernel
theorem dX5_come_31 : decode cX5_come 31 = .ok (.aload_n 0, 1) := by decide +kernel
theorem dX5_come_32 : decode cX5_come 32 = .ok (.getfield 25, 3) := by decide +kernel
theorem dX5_come_35 : decode cX5_come 35 = .ok (.aload_n 0, 1) := by decide +kernel
theorem dX5_come_36 : decode cX5_come 36 = .ok (.getfield 10, 3) := by decide +kernel
theorem dX5_come_39 : decode cX5_come 39 = .ok (.invokevirtual 64, 3) := by decide +kernel
theorem dX5_come_42 : decode cX5_come 42 = .ok (.aload_n 0, 1) := by decide +kernel
theorem dX5_come_43 : decode cX5_come 43 = .ok (.getfield 10, 3) := by decide +kernel
theorem dX5_come_46 : decode cX5_come 46 = .ok (.iload_n 1, 1) := by decide +kernel
theorem dX5_come_47 : decode cX5_come 47 = .ok (.iload_n 2, 1) := by decide +kernel
theorem dX5_come_48 : decode cX5_come 48 = .ok (.invokevirtual 68, 3) := by decide +kernel
theorem dX5_come_51 : decode cX5_come 51 = .ok (.aload_n 0, 1) := by decide +kernel
theorem dX5_come_52 : decode cX5_come 52 = .ok (.getfield 10, 3) := by decide +kernel
theorem dX5_come_55 : decode cX5_come 55 = .ok (.getfield 61, 3) := by decide +kernel
theorem dX5_come_58 : decode cX5_come 58 = .ok (.iconst 1, 1) := by decide +kernel
theorem dX5_come_59 : decode cX5_come 59 = .ok (.isub, 1) := by decide +kernel
theorem dX5_come_60 : decode cX5_come 60 = .ok (.ireturn, 1) := by decide +kernel
theorem dX5_go_0 : decode cX5_go 0 = .ok (.aload_n 0, 1) := by decide +kernel
theorem dX5_go_1 : decode cX5_go 1 = .ok (.getfield 10, 3) := by decide +kernel
theorem dX5_go_4 : decode cX5_go 4 = .ok (.iload_n 1, 1) := by decide +kernel
theorem dX5_go_5 : decode cX5_go 5 = .ok (.invokevirtual 72, 3) := by decide +kernel
theorem dX5_go_8 : decode cX5_go 8 = .ok (.ifCond .ne 5, 3) := by decide +kernel
theorem dX5_go_11 : decode cX5_go 11 = .ok (.iconst (-1), 1) := by decide +kernel
theorem dX5_go_12 : decode cX5_go 12 = .ok (.ireturn, 1) := by decide +kernel
theorem dX5_go_13 : decode cX5_go 13 = .ok (.aload_n 0, 1) := by decide +kernel
theorem dX5_go_14 : decode cX5_go 14 = .ok (.getfield 25, 3) := by decide +kernel
theorem dX5_go_17 : decode cX5_go 17 = .ok (.aload_n 0, 1) := by decide +kernel
theorem dX5_go_18 : decode cX5_go 18 = .ok (.getfield 10, 3) := by decide +kernel
theorem dX5_go_21 : decode cX5_go 21 = .ok (.invokevirtual 64, 3) := by decide +kernel
theorem dX5_go_24 : decode cX5_go 24 = .ok (.aload_n 0, 1) := by decide +kernel
theorem dX5_go_25 : decode cX5_go 25 = .ok (.getfield 10, 3) := by decide +kernel
theorem dX5_go_28 : decode cX5_go 28 = .ok (.getfield 75, 3) := by decide +kernel
theorem dX5_go_31 : decode cX5_go 31 = .ok (.iload_n 1, 1) := by decide +kernel
theorem dX5_go_32 : decode cX5_go 32 = .ok (.iaload, 1) := by decide +kernel
theorem dX5_go_33 : decode cX5_go 33 = .ok (.istore_n 2, 1) := by decide +kernel
theorem dX5_go_34 : decode cX5_go 34 = .ok (.aload_n 0, 1) := by decide +kernel
theorem dX5_go_35 : decode cX5_go 35 = .ok (.getfield 10, 3) := by decide +kernel
theorem dX5_go_38 : decode cX5_go 38 = .ok (.iload_n 1, 1) := by decide +kernel
theorem dX5_go_39 : decode cX5_go 39 = .ok (.invokevirtual 79, 3) := by decide +kernel
theorem dX5_go_42 : decode cX5_go 42 = .ok (.iload_n 2, 1) := by decide +kernel
theorem dX5_go_43 : decode cX5_go 43 = .ok (.ireturn, 1) := by decide +kernel
theorem dX5_want_0 : decode cX5_want 0 = .ok (.aload_n 0, 1) := by decide +kernel
theorem dX5_want_1 : decode cX5_want 1 = .ok (.getfield 10, 3) := by decide +kernel
theorem dX5_want_4 : decode cX5_want 4 = .ok (.iload_n 1, 1) := by decide +kernel
theorem dX5_want_5 : decode cX5_want 5 = .ok (.invokevirtual 72, 3) := by decide +kernel
theorem dX5_want_8 : decode cX5_want 8 = .ok (.ifCond .eq 10, 3) := by decide +kernel
theorem dX5_want_11 : decode cX5_want 11 = .ok (.iload_n 2, 1) := by decide +kernel
theorem dX5_want_12 : decode cX5_want 12 = .ok (.invokestatic 58, 3) := by decide +kernel
theorem dX5_want_15 : decode cX5_want 15 = .ok (.ifCond .ne 5, 3) := by decide +kernel
theorem dX5_want_18 : decode cX5_want 18 = .ok (.iconst (-1), 1) := by decide +kernel
theorem dX5_want_19 : decode cX5_want 19 = .ok (.ireturn, 1) := by decide +kernel
theorem dX5_want_20 : decode cX5_want 20 = .ok (.aload_n 0, 1) := by decide +kernel
theorem dX5_want_21 : decode cX5_want 21 = .ok (.getfield 25, 3) := by decide +kernel
theorem dX5_want_24 : decode cX5_want 24 = .ok (.aload_n 0, 1) := by decide +kernel
theorem dX5_want_25 : decode cX5_want 25 = .ok (.getfield 10, 3) := by decide +kernel
theorem dX5_want_28 : decode cX5_want 28 = .ok (.invokevirtual 64, 3) := by decide +kernel
theorem dX5_want_31 : decode cX5_want 31 = .ok (.aload_n 0, 1) := by decide +kernel
theorem dX5_want_32 : decode cX5_want 32 = .ok (.getfield 10, 3) := by decide +kernel
theorem dX5_want_35 : decode cX5_want 35 = .ok (.getfield 83, 3) := by decide +kernel
theorem dX5_want_38 : decode cX5_want 38 = .ok (.iload_n 1, 1) := by decide +kernel
theorem dX5_want_39 : decode cX5_want 39 = .ok (.iaload, 1) := by decide +kernel
theorem dX5_want_40 : decode cX5_want 40 = .ok (.istore_n 3, 1) := by decide +kernel
theorem dX5_want_41 : decode cX5_want 41 = .ok (.aload_n 0, 1) := by decide +kernel
theorem dX5_want_42 : decode cX5_want 42 = .ok (.getfield 10, 3) := by decide +kernel
theorem dX5_want_45 : decode cX5_want 45 = .ok (.getfield 83, 3) := by decide +kernel
theorem dX5_want_48 : decode cX5_want 48 = .ok (.iload_n 1, 1) := by decide +kernel
theorem dX5_want_49 : decode cX5_want 49 = .ok (.iload_n 2, 1) := by decide +kernel
theorem dX5_want_50 : decode cX5_want 50 = .ok (.iastore, 1) := by decide +kernel
theorem dX5_want_51 : decode cX5_want 51 = .ok (.iload_n 3, 1) := by decide +kernel
theorem dX5_want_52 : decode cX5_want 52 = .ok (.ireturn, 1) := by decide +kernel
theorem dX5_life_0 : decode cX5_life 0 = .ok (.iload_n 1, 1) := by decide +kernel
theorem dX5_life_1 : decode cX5_life 1 = .ok (.invokestatic 54, 3) := by decide +kernel
theorem dX5_life_4 : decode cX5_life 4 = .ok (.ifCond .eq 14, 3) := by decide +kernel
theorem dX5_life_7 : decode cX5_life 7 = .ok (.iload_n 2, 1) := by decide +kernel
theorem dX5_life_8 : decode cX5_life 8 = .ok (.iconst 1, 1) := by decide +kernel
theorem dX5_life_9 : decode cX5_life 9 = .ok (.if_icmp .lt 9, 3) := by decide +kernel
theorem dX5_life_12 : decode cX5_life 12 = .ok (.iload_n 2, 1) := by decide +kernel
theorem dX5_life_13 : decode cX5_life 13 = .ok (.bipush 9, 2) := by decide +kernel
theorem dX5_life_15 : decode cX5_life 15 = .ok (.if_icmp .le 5, 3) := by decide +kernel
theorem dX5_life_18 : decode cX5_life 18 = .ok (.iconst (-1), 1) := by decide +kernel
theorem dX5_life_19 : decode cX5_life 19 = .ok (.ireturn, 1) := by decide +kernel
theorem dX5_life_20 : decode cX5_life 20 = .ok (.aload_n 0, 1) := by decide +kernel
theorem dX5_life_21 : decode cX5_life 21 = .ok (.getfield 25, 3) := by decide +kernel
theorem dX5_life_24 : decode cX5_life 24 = .ok (.aload_n 0, 1) := by decide +kernel
theorem dX5_life_25 : decode cX5_life 25 = .ok (.getfield 10, 3) := by decide +kernel
theorem dX5_life_28 : decode cX5_life 28 = .ok (.invokevirtual 64, 3) := by decide +kernel
theorem dX5_life_31 : decode cX5_life 31 = .ok (.aload_n 0, 1) := by decide +kernel
theorem dX5_life_32 : decode cX5_life 32 = .ok (.getfield 10, 3) := by decide +kernel
theorem dX5_life_35 : decode cX5_life 35 = .ok (.getfield 86, 3) := by decide +kernel
theorem dX5_life_38 : decode cX5_life 38 = .ok (.iload_n 1, 1) := by decide +kernel
theorem dX5_life_39 : decode cX5_life 39 = .ok (.iaload, 1) := by decide +kernel
theorem dX5_life_40 : decode cX5_life 40 = .ok (.istore_n 3, 1) := by decide +kernel
theorem dX5_life_41 : decode cX5_life 41 = .ok (.aload_n 0, 1) := by decide +kernel
theorem dX5_life_42 : decode cX5_life 42 = .ok (.getfield 10, 3) := by decide +kernel
theorem dX5_life_45 : decode cX5_life 45 = .ok (.getfield 86, 3) := by decide +kernel
theorem dX5_life_48 : decode cX5_life 48 = .ok (.iload_n 1, 1) := by decide +kernel
theorem dX5_life_49 : decode cX5_life 49 = .ok (.iload_n 2, 1) := by decide +kernel
theorem dX5_life_50 : decode cX5_life 50 = .ok (.iastore, 1) := by decide +kernel
theorem dX5_life_51 : decode cX5_life 51 = .ok (.iload_n 3, 1) := by decide +kernel
theorem dX5_life_52 : decode cX5_life 52 = .ok (.ireturn, 1) := by decide +kernel
theorem dX5_circle_0 : decode cX5_circle 0 = .ok (.iload_n 1, 1) := by decide +kernel
theorem dX5_circle_1 : decode cX5_circle 1 = .ok (.invokestatic 89, 3) := by decide +kernel
theorem dX5_circle_4 : decode cX5_circle 4 = .ok (.ifCond .ne 5, 3) := by decide +kernel
theorem dX5_circle_7 : decode cX5_circle 7 = .ok (.iconst (-1), 1) := by decide +kernel
theorem dX5_circle_8 : decode cX5_circle 8 = .ok (.ireturn, 1) := by decide +kernel
theorem dX5_circle_9 : decode cX5_circle 9 = .ok (.aload_n 0, 1) := by decide +kernel
theorem dX5_circle_10 : decode cX5_circle 10 = .ok (.getfield 25, 3) := by decide +kernel
theorem dX5_circle_13 : decode cX5_circle 13 = .ok (.aload_n 0, 1) := by decide +kernel
theorem dX5_circle_14 : decode cX5_circle 14 = .ok (.getfield 10, 3) := by decide +kernel
theorem dX5_circle_17 : decode cX5_circle 17 = .ok (.invokevirtual 64, 3) := by decide +kernel
theorem dX5_circle_20 : decode cX5_circle 20 = .ok (.aload_n 0, 1) := by decide +kernel
theorem dX5_circle_21 : decode cX5_circle 21 = .ok (.getfield 10, 3) := by decide +kernel
theorem dX5_circle_24 : decode cX5_circle 24 = .ok (.getfield 92, 3) := by decide +kernel
theorem dX5_circle_27 : decode cX5_circle 27 = .ok (.istore_n 2, 1) := by decide +kernel
theorem dX5_circle_28 : decode cX5_circle 28 = .ok (.aload_n 0, 1) := by decide +kernel
theorem dX5_circle_29 : decode cX5_circle 29 = .ok (.getfield 10, 3) := by decide +kernel
theorem dX5_circle_32 : decode cX5_circle 32 = .ok (.iload_n 1, 1) := by decide +kernel
theorem dX5_circle_33 : decode cX5_circle 33 = .ok (.putfield 92, 3) := by decide +kernel
theorem dX5_circle_36 : decode cX5_circle 36 = .ok (.iload_n 2, 1) := by decide +kernel
theorem dX5_circle_37 : decode cX5_circle 37 = .ok (.ireturn, 1) := by decide +kernel
theorem dX5_lot_0 : decode cX5_lot 0 = .ok (.iload_n 1, 1) := by decide +kernel
theorem dX5_lot_1 : decode cX5_lot 1 = .ok (.ifCond .lt 10, 3) := by decide +kernel
theorem dX5_lot_4 : decode cX5_lot 4 = .ok (.iload_n 1, 1) := by decide +kernel
theorem dX5_lot_5 : decode cX5_lot 5 = .ok (.sipush 10000, 3) := by decide +kernel
theorem dX5_lot_8 : decode cX5_lot 8 = .ok (.if_icmp .lt 5, 3) := by decide +kernel
theorem dX5_lot_11 : decode cX5_lot 11 = .ok (.iconst (-1), 1) := by decide +kernel
theorem dX5_lot_12 : decode cX5_lot 12 = .ok (.ireturn, 1) := by decide +kernel
theorem dX5_lot_13 : decode cX5_lot 13 = .ok (.aload_n 0, 1) := by decide +kernel
theorem dX5_lot_14 : decode cX5_lot 14 = .ok (.getfield 25, 3) := by decide +kernel
theorem dX5_lot_17 : decode cX5_lot 17 = .ok (.aload_n 0, 1) := by decide +kernel
theorem dX5_lot_18 : decode cX5_lot 18 = .ok (.getfield 10, 3) := by decide +kernel
theorem dX5_lot_21 : decode cX5_lot 21 = .ok (.invokevirtual 64, 3) := by decide +kernel
theorem dX5_lot_24 : decode cX5_lot 24 = .ok (.aload_n 0, 1) := by decide +kernel
theorem dX5_lot_25 : decode cX5_lot 25 = .ok (.getfield 10, 3) := by decide +kernel
theorem dX5_lot_28 : decode cX5_lot 28 = .ok (.getfield 95, 3) := by decide +kernel
theorem dX5_lot_31 : decode cX5_lot 31 = .ok (.istore_n 2, 1) := by decide +kernel
theorem dX5_lot_32 : decode cX5_lot 32 = .ok (.aload_n 0, 1) := by decide +kernel
theorem dX5_lot_33 : decode cX5_lot 33 = .ok (.getfield 10, 3) := by decide +kernel
theorem dX5_lot_36 : decode cX5_lot 36 = .ok (.iload_n 1, 1) := by decide +kernel
theorem dX5_lot_37 : decode cX5_lot 37 = .ok (.putfield 95, 3) := by decide +kernel
theorem dX5_lot_40 : decode cX5_lot 40 = .ok (.iload_n 2, 1) := by decide +kernel
theorem dX5_lot_41 : decode cX5_lot 41 = .ok (.ireturn, 1) := by decide +kernel
theorem dX5_barter_0 : decode cX5_barter 0 = .ok (.aload_n 0, 1) := by decide +kernel
theorem dX5_barter_1 : decode cX5_barter 1 = .ok (.getfield 10, 3) := by decide +kernel
theorem dX5_barter_4 : decode cX5_barter 4 = .ok (.iload_n 1, 1) := by decide +kernel
theorem dX5_barter_5 : decode cX5_barter 5 = .ok (.iload_n 2, 1) := by decide +kernel
theorem dX5_barter_6 : decode cX5_barter 6 = .ok (.invokevirtual 98, 3) := by decide +kernel
theorem dX5_barter_9 : decode cX5_barter 9 = .ok (.ifCond .ne 5, 3) := by decide +kernel
theorem dX5_barter_12 : decode cX5_barter 12 = .ok (.iconst (-1), 1) := by decide +kernel
theorem dX5_barter_13 : decode cX5_barter 13 = .ok (.ireturn, 1) := by decide +kernel
theorem dX5_barter_14 : decode cX5_barter 14 = .ok (.aload_n 0, 1) := by decide +kernel
theorem dX5_barter_15 : decode cX5_barter 15 = .ok (.getfield 25, 3) := by decide +kernel
theorem dX5_barter_18 : decode cX5_barter 18 = .ok (.aload_n 0, 1) := by decide +kernel
theorem dX5_barter_19 : decode cX5_barter 19 = .ok (.getfield 10, 3) := by decide +kernel
theorem dX5_barter_22 : decode cX5_barter 22 = .ok (.invokevirtual 64, 3) := by decide +kernel
theorem dX5_barter_25 : decode cX5_barter 25 = .ok (.aload_n 0, 1) := by decide +kernel
theorem dX5_barter_26 : decode cX5_barter 26 = .ok (.getfield 10, 3) := by decide +kernel
theorem dX5_barter_29 : decode cX5_barter 29 = .ok (.iload_n 1, 1) := by decide +kernel
theorem dX5_barter_30 : decode cX5_barter 30 = .ok (.iload_n 2, 1) := by decide +kernel
theorem dX5_barter_31 : decode cX5_barter 31 = .ok (.invokevirtual 102, 3) := by decide +kernel
theorem dX5_barter_34 : decode cX5_barter 34 = .ok (.ireturn, 1) := by decide +kernel
theorem dX5_call_0 : decode cX5_call 0 = .ok (.aload_n 0, 1) := by decide +kernel
theorem dX5_call_1 : decode cX5_call 1 = .ok (.getfield 25, 3) := by decide +kernel
theorem dX5_call_4 : decode cX5_call 4 = .ok (.aload_n 0, 1) := by decide +kernel
theorem dX5_call_5 : decode cX5_call 5 = .ok (.getfield 10, 3) := by decide +kernel
theorem dX5_call_8 : decode cX5_call 8 = .ok (.invokevirtual 64, 3) := by decide +kernel
theorem dX5_call_11 : decode cX5_call 11 = .ok (.aload_n 0, 1) := by decide +kernel
theorem dX5_call_12 : decode cX5_call 12 = .ok (.aload_n 0, 1) := by decide +kernel
theorem dX5_call_13 : decode cX5_call 13 = .ok (.getfield 10, 3) := by decide +kernel
theorem dX5_call_16 : decode cX5_call 16 = .ok (.invokevirtual 106, 3) := by decide +kernel
theorem dX5_call_19 : decode cX5_call 19 = .ok (.ireturn, 1) := by decide +kernel
theorem dX5_day_0 : decode cX5_day 0 = .ok (.aload_n 0, 1) := by decide +kernel
theorem dX5_day_1 : decode cX5_day 1 = .ok (.getfield 25, 3) := by decide +kernel
theorem dX5_day_4 : decode cX5_day 4 = .ok (.aload_n 0, 1) := by decide +kernel
theorem dX5_day_5 : decode cX5_day 5 = .ok (.getfield 10, 3) := by decide +kernel
theorem dX5_day_8 : decode cX5_day 8 = .ok (.invokevirtual 64, 3) := by decide +kernel
theorem dX5_day_11 : decode cX5_day 11 = .ok (.aload_n 0, 1) := by decide +kernel
theorem dX5_day_12 : decode cX5_day 12 = .ok (.getfield 10, 3) := by decide +kernel
theorem dX5_day_15 : decode cX5_day 15 = .ok (.invokevirtual 110, 3) := by decide +kernel
theorem dX5_day_18 : decode cX5_day 18 = .ok (.ireturn, 1) := by decide +kernel
theorem dX5_trader_0 : decode cX5_trader 0 = .ok (.aload_n 0, 1) := by decide +kernel
theorem dX5_trader_1 : decode cX5_trader 1 = .ok (.getfield 10, 3) := by decide +kernel
theorem dX5_trader_4 : decode cX5_trader 4 = .ok (.iload_n 1, 1) := by decide +kernel
theorem dX5_trader_5 : decode cX5_trader 5 = .ok (.invokevirtual 72, 3) := by decide +kernel
theorem dX5_trader_8 : decode cX5_trader 8 = .ok (.ifCond .ne 5, 3) := by decide +kernel
theorem dX5_trader_11 : decode cX5_trader 11 = .ok (.iconst (-1), 1) := by decide +kernel
theorem dX5_trader_12 : decode cX5_trader 12 = .ok (.ireturn, 1) := by decide +kernel
theorem dX5_trader_13 : decode cX5_trader 13 = .ok (.iload_n 2, 1) := by decide +kernel
theorem dX5_trader_14 : decode cX5_trader 14 = .ok (.tableswitch 205 0 9 #[54, 64, 74, 100, 126, 151, 168, 178, 190, 199], 54) := by decide +kernel
theorem dX5_trader_68 : decode cX5_trader 68 = .ok (.aload_n 0, 1) := by decide +kernel
theorem dX5_trader_69 : decode cX5_trader 69 = .ok (.getfield 10, 3) := by decide +kernel
theorem dX5_trader_72 : decode cX5_trader 72 = .ok (.getfield 150, 3) := by decide +kernel
theorem dX5_trader_75 : decode cX5_trader 75 = .ok (.iload_n 1, 1) := by decide +kernel
theorem dX5_trader_76 : decode cX5_trader 76 = .ok (.iaload, 1) := by decide +kernel
theorem dX5_trader_77 : decode cX5_trader 77 = .ok (.ireturn, 1) := by decide +kernel
theorem dX5_trader_78 : decode cX5_trader 78 = .ok (.aload_n 0, 1) := by decide +kernel
theorem dX5_trader_79 : decode cX5_trader 79 = .ok (.getfield 10, 3) := by decide +kernel
theorem dX5_trader_82 : decode cX5_trader 82 = .ok (.getfield 83, 3) := by decide +kernel
theorem dX5_trader_85 : decode cX5_trader 85 = .ok (.iload_n 1, 1) := by decide +kernel
theorem dX5_trader_86 : decode cX5_trader 86 = .ok (.iaload, 1) := by decide +kernel
theorem dX5_trader_87 : decode cX5_trader 87 = .ok (.ireturn, 1) := by decide +kernel
theorem dX5_trader_88 : decode cX5_trader 88 = .ok (.aload_n 0, 1) := by decide +kernel
theorem dX5_trader_89 : decode cX5_trader 89 = .ok (.getfield 10, 3) := by decide +kernel
theorem dX5_trader_92 : decode cX5_trader 92 = .ok (.iload_n 1, 1) := by decide +kernel
theorem dX5_trader_93 : decode cX5_trader 93 = .ok (.invokevirtual 153, 3) := by decide +kernel
theorem dX5_trader_96 : decode cX5_trader 96 = .ok (.ifCond .eq 15, 3) := by decide +kernel
theorem dX5_trader_99 : decode cX5_trader 99 = .ok (.aload_n 0, 1) := by decide +kernel
theorem dX5_trader_100 : decode cX5_trader 100 = .ok (.getfield 10, 3) := by decide +kernel
theorem dX5_trader_103 : decode cX5_trader 103 = .ok (.getfield 156, 3) := by decide +kernel
theorem dX5_trader_106 : decode cX5_trader 106 = .ok (.iload_n 1, 1) := by decide +kernel
theorem dX5_trader_107 : decode cX5_trader 107 = .ok (.iaload, 1) := by decide +kernel
theorem dX5_trader_108 : decode cX5_trader 108 = .ok (.goto 5, 3) := by decide +kernel
theorem dX5_trader_111 : decode cX5_trader 111 = .ok (.bipush (-4), 2) := by decide +kernel
theorem dX5_trader_113 : decode cX5_trader 113 = .ok (.ireturn, 1) := by decide +kernel
theorem dX5_trader_114 : decode cX5_trader 114 = .ok (.aload_n 0, 1) := by decide +kernel
theorem dX5_trader_115 : decode cX5_trader 115 = .ok (.getfield 10, 3) := by decide +kernel
theorem dX5_trader_118 : decode cX5_trader 118 = .ok (.iload_n 1, 1) := by decide +kernel
theorem dX5_trader_119 : decode cX5_trader 119 = .ok (.invokevirtual 153, 3) := by decide +kernel
theorem dX5_trader_122 : decode cX5_trader 122 = .ok (.ifCond .eq 15, 3) := by decide +kernel
theorem dX5_trader_125 : decode cX5_trader 125 = .ok (.aload_n 0, 1) := by decide +kernel
theorem dX5_trader_126 : decode cX5_trader 126 = .ok (.getfield 10, 3) := by decide +kernel
theorem dX5_trader_129 : decode cX5_trader 129 = .ok (.getfield 159, 3) := by decide +kernel
theorem dX5_trader_132 : decode cX5_trader 132 = .ok (.iload_n 1, 1) := by decide +kernel
theorem dX5_trader_133 : decode cX5_trader 133 = .ok (.iaload, 1) := by decide +kernel
theorem dX5_trader_134 : decode cX5_trader 134 = .ok (.goto 5, 3) := by decide +kernel
theorem dX5_trader_137 : decode cX5_trader 137 = .ok (.bipush (-4), 2) := by decide +kernel
theorem dX5_trader_139 : decode cX5_trader 139 = .ok (.ireturn, 1) := by decide +kernel
theorem dX5_trader_140 : decode cX5_trader 140 = .ok (.aload_n 0, 1) := by decide +kernel
theorem dX5_trader_141 : decode cX5_trader 141 = .ok (.getfield 10, 3) := by decide +kernel
theorem dX5_trader_144 : decode cX5_trader 144 = .ok (.iload_n 1, 1) := by decide +kernel
theorem dX5_trader_145 : decode cX5_trader 145 = .ok (.invokevirtual 153, 3) := by decide +kernel
theorem dX5_trader_148 : decode cX5_trader 148 = .ok (.ifCond .eq 14, 3) := by decide +kernel
theorem dX5_trader_151 : decode cX5_trader 151 = .ok (.aload_n 0, 1) := by decide +kernel
theorem dX5_trader_152 : decode cX5_trader 152 = .ok (.getfield 10, 3) := by decide +kernel
theorem dX5_trader_155 : decode cX5_trader 155 = .ok (.iload_n 1, 1) := by decide +kernel
theorem dX5_trader_156 : decode cX5_trader 156 = .ok (.invokevirtual 162, 3) := by decide +kernel
theorem dX5_trader_159 : decode cX5_trader 159 = .ok (.goto 5, 3) := by decide +kernel
theorem dX5_trader_162 : decode cX5_trader 162 = .ok (.bipush (-4), 2) := by decide +kernel
theorem dX5_trader_164 : decode cX5_trader 164 = .ok (.ireturn, 1) := by decide +kernel
theorem dX5_trader_165 : decode cX5_trader 165 = .ok (.aload_n 0, 1) := by decide +kernel
theorem dX5_trader_166 : decode cX5_trader 166 = .ok (.getfield 10, 3) := by decide +kernel
theorem dX5_trader_169 : decode cX5_trader 169 = .ok (.getfield 165, 3) := by decide +kernel
theorem dX5_trader_172 : decode cX5_trader 172 = .ok (.iload_n 1, 1) := by decide +kernel
theorem dX5_trader_173 : decode cX5_trader 173 = .ok (.if_icmp .ne 7, 3) := by decide +kernel
theorem dX5_trader_176 : decode cX5_trader 176 = .ok (.iconst 1, 1) := by decide +kernel
theorem dX5_trader_177 : decode cX5_trader 177 = .ok (.goto 4, 3) := by decide +kernel
theorem dX5_trader_180 : decode cX5_trader 180 = .ok (.iconst 0, 1) := by decide +kernel
theorem dX5_trader_181 : decode cX5_trader 181 = .ok (.ireturn, 1) := by decide +kernel
theorem dX5_trader_182 : decode cX5_trader 182 = .ok (.aload_n 0, 1) := by decide +kernel
theorem dX5_trader_183 : decode cX5_trader 183 = .ok (.getfield 10, 3) := by decide +kernel
theorem dX5_trader_186 : decode cX5_trader 186 = .ok (.getfield 75, 3) := by decide +kernel
theorem dX5_trader_189 : decode cX5_trader 189 = .ok (.iload_n 1, 1) := by decide +kernel
theorem dX5_trader_190 : decode cX5_trader 190 = .ok (.iaload, 1) := by decide +kernel
theorem dX5_trader_191 : decode cX5_trader 191 = .ok (.ireturn, 1) := by decide +kernel
theorem dX5_trader_192 : decode cX5_trader 192 = .ok (.aload_n 0, 1) := by decide +kernel
theorem dX5_trader_193 : decode cX5_trader 193 = .ok (.getfield 10, 3) := by decide +kernel
theorem dX5_trader_196 : decode cX5_trader 196 = .ok (.iload_n 1, 1) := by decide +kernel
theorem dX5_trader_197 : decode cX5_trader 197 = .ok (.invokevirtual 168, 3) := by decide +kernel
theorem dX5_trader_200 : decode cX5_trader 200 = .ok (.invokestatic 171, 3) := by decide +kernel
theorem dX5_trader_203 : decode cX5_trader 203 = .ok (.ireturn, 1) := by decide +kernel
theorem dX5_trader_204 : decode cX5_trader 204 = .ok (.aload_n 0, 1) := by decide +kernel
theorem dX5_trader_205 : decode cX5_trader 205 = .ok (.getfield 10, 3) := by decide +kernel
theorem dX5_trader_208 : decode cX5_trader 208 = .ok (.iload_n 1, 1) := by decide +kernel
theorem dX5_trader_209 : decode cX5_trader 209 = .ok (.invokevirtual 176, 3) := by decide +kernel
theorem dX5_trader_212 : decode cX5_trader 212 = .ok (.ireturn, 1) := by decide +kernel
theorem dX5_trader_213 : decode cX5_trader 213 = .ok (.aload_n 0, 1) := by decide +kernel
theorem dX5_trader_214 : decode cX5_trader 214 = .ok (.iload_n 1, 1) := by decide +kernel
theorem dX5_trader_215 : decode cX5_trader 215 = .ok (.invokevirtual 179, 3) := by decide +kernel
theorem dX5_trader_218 : decode cX5_trader 218 = .ok (.ireturn, 1) := by decide +kernel
theorem dX5_trader_219 : decode cX5_trader 219 = .ok (.iconst (-1), 1) := by decide +kernel
theorem dX5_trader_220 : decode cX5_trader 220 = .ok (.ireturn, 1) := by decide +kernel
theorem dX5_can_0 : decode cX5_can 0 = .ok (.aload_n 0, 1) := by decide +kernel
theorem dX5_can_1 : decode cX5_can 1 = .ok (.getfield 10, 3) := by decide +kernel
theorem dX5_can_4 : decode cX5_can 4 = .ok (.iload_n 1, 1) := by decide +kernel
theorem dX5_can_5 : decode cX5_can 5 = .ok (.iload_n 2, 1) := by decide +kernel
theorem dX5_can_6 : decode cX5_can 6 = .ok (.invokevirtual 98, 3) := by decide +kernel
theorem dX5_can_9 : decode cX5_can 9 = .ok (.ifCond .ne 5, 3) := by decide +kernel
theorem dX5_can_12 : decode cX5_can 12 = .ok (.iconst (-1), 1) := by decide +kernel
theorem dX5_can_13 : decode cX5_can 13 = .ok (.ireturn, 1) := by decide +kernel
theorem dX5_can_14 : decode cX5_can 14 = .ok (.aload_n 0, 1) := by decide +kernel
theorem dX5_can_15 : decode cX5_can 15 = .ok (.getfield 10, 3) := by decide +kernel
theorem dX5_can_18 : decode cX5_can 18 = .ok (.iload_n 1, 1) := by decide +kernel
theorem dX5_can_19 : decode cX5_can 19 = .ok (.iload_n 2, 1) := by decide +kernel
theorem dX5_can_20 : decode cX5_can 20 = .ok (.invokevirtual 182, 3) := by decide +kernel
theorem dX5_can_23 : decode cX5_can 23 = .ok (.ifCond .eq 7, 3) := by decide +kernel
theorem dX5_can_26 : decode cX5_can 26 = .ok (.iconst 1, 1) := by decide +kernel
theorem dX5_can_27 : decode cX5_can 27 = .ok (.goto 4, 3) := by decide +kernel
theorem dX5_can_30 : decode cX5_can 30 = .ok (.iconst 0, 1) := by decide +kernel
theorem dX5_can_31 : decode cX5_can 31 = .ok (.ireturn, 1) := by decide +kernel
theorem dX5_whyNot_0 : decode cX5_whyNot 0 = .ok (.aload_n 0, 1) := by decide +kernel
theorem dX5_whyNot_1 : decode cX5_whyNot 1 = .ok (.getfield 10, 3) := by decide +kernel
theorem dX5_whyNot_4 : decode cX5_whyNot 4 = .ok (.iload_n 1, 1) := by decide +kernel
theorem dX5_whyNot_5 : decode cX5_whyNot 5 = .ok (.iload_n 2, 1) := by decide +kernel
theorem dX5_whyNot_6 : decode cX5_whyNot 6 = .ok (.invokevirtual 98, 3) := by decide +kernel
theorem dX5_whyNot_9 : decode cX5_whyNot 9 = .ok (.ifCond .eq 15, 3) := by decide +kernel
theorem dX5_whyNot_12 : decode cX5_whyNot 12 = .ok (.aload_n 0, 1) := by decide +kernel
theorem dX5_whyNot_13 : decode cX5_whyNot 13 = .ok (.getfield 10, 3) := by decide +kernel
theorem dX5_whyNot_16 : decode cX5_whyNot 16 = .ok (.iload_n 1, 1) := by decide +kernel
theorem dX5_whyNot_17 : decode cX5_whyNot 17 = .ok (.iload_n 2, 1) := by decide +kernel
theorem dX5_whyNot_18 : decode cX5_whyNot 18 = .ok (.invokevirtual 185, 3) := by decide +kernel
theorem dX5_whyNot_21 : decode cX5_whyNot 21 = .ok (.goto 4, 3) := by decide +kernel
theorem dX5_whyNot_24 : decode cX5_whyNot 24 = .ok (.iconst (-1), 1) := by decide +kernel
theorem dX5_whyNot_25 : decode cX5_whyNot 25 = .ok (.ireturn, 1) := by decide +kernel
theorem dX5_most_0 : decode cX5_most 0 = .ok (.iload_n 1, 1) := by decide +kernel
theorem dX5_most_1 : decode cX5_most 1 = .ok (.lookupswitch 58 #[(0, 27), (1, 46)], 27) := by decide +kernel
theorem dX5_most_28 : decode cX5_most 28 = .ok (.aload_n 0, 1) := by decide +kernel
theorem dX5_most_29 : decode cX5_most 29 = .ok (.getfield 39, 3) := by decide +kernel
theorem dX5_most_32 : decode cX5_most 32 = .ok (.aload_n 0, 1) := by decide +kernel
theorem dX5_most_33 : decode cX5_most 33 = .ok (.getfield 10, 3) := by decide +kernel
theorem dX5_most_36 : decode cX5_most 36 = .ok (.aload_n 0, 1) := by decide +kernel
theorem dX5_most_37 : decode cX5_most 37 = .ok (.getfield 10, 3) := by decide +kernel
theorem dX5_most_40 : decode cX5_most 40 = .ok (.getfield 92, 3) := by decide +kernel
theorem dX5_most_43 : decode cX5_most 43 = .ok (.invokevirtual 188, 3) := by decide +kernel
theorem dX5_most_46 : decode cX5_most 46 = .ok (.ireturn, 1) := by decide +kernel
theorem dX5_most_47 : decode cX5_most 47 = .ok (.aload_n 0, 1) := by decide +kernel
theorem dX5_most_48 : decode cX5_most 48 = .ok (.getfield 46, 3) := by decide +kernel
theorem dX5_most_51 : decode cX5_most 51 = .ok (.aload_n 0, 1) := by decide +kernel
theorem dX5_most_52 : decode cX5_most 52 = .ok (.getfield 10, 3) := by decide +kernel
theorem dX5_most_55 : decode cX5_most 55 = .ok (.invokevirtual 192, 3) := by decide +kernel
theorem dX5_most_58 : decode cX5_most 58 = .ok (.ireturn, 1) := by decide +kernel
theorem dX5_most_59 : decode cX5_most 59 = .ok (.iconst (-1), 1) := by decide +kernel
theorem dX5_most_60 : decode cX5_most 60 = .ok (.ireturn, 1) := by decide +kernel
theorem dX5_kind_0 : decode cX5_kind 0 = .ok (.iload_n 1, 1) := by decide +kernel
theorem dX5_kind_1 : decode cX5_kind 1 = .ok (.invokestatic 54, 3) := by decide +kernel
theorem dX5_kind_4 : decode cX5_kind 4 = .ok (.ifCond .ne 5, 3) := by decide +kernel
theorem dX5_kind_7 : decode cX5_kind 7 = .ok (.iconst (-1), 1) := by decide +kernel
theorem dX5_kind_8 : decode cX5_kind 8 = .ok (.ireturn, 1) := by decide +kernel
theorem dX5_kind_9 : decode cX5_kind 9 = .ok (.iload_n 2, 1) := by decide +kernel
theorem dX5_kind_10 : decode cX5_kind 10 = .ok (.tableswitch 103 0 5 #[38, 48, 57, 75, 84, 93], 38) := by decide +kernel
theorem dX5_kind_48 : decode cX5_kind 48 = .ok (.aload_n 0, 1) := by decide +kernel
theorem dX5_kind_49 : decode cX5_kind 49 = .ok (.getfield 10, 3) := by decide +kernel
theorem dX5_kind_52 : decode cX5_kind 52 = .ok (.getfield 86, 3) := by decide +kernel
theorem dX5_kind_55 : decode cX5_kind 55 = .ok (.iload_n 1, 1) := by decide +kernel
theorem dX5_kind_56 : decode cX5_kind 56 = .ok (.iaload, 1) := by decide +kernel
theorem dX5_kind_57 : decode cX5_kind 57 = .ok (.ireturn, 1) := by decide +kernel
theorem dX5_kind_58 : decode cX5_kind 58 = .ok (.aload_n 0, 1) := by decide +kernel
theorem dX5_kind_59 : decode cX5_kind 59 = .ok (.getfield 10, 3) := by decide +kernel
theorem dX5_kind_62 : decode cX5_kind 62 = .ok (.iload_n 1, 1) := by decide +kernel
theorem dX5_kind_63 : decode cX5_kind 63 = .ok (.invokevirtual 195, 3) := by decide +kernel
theorem dX5_kind_66 : decode cX5_kind 66 = .ok (.ireturn, 1) := by decide +kernel
theorem dX5_kind_67 : decode cX5_kind 67 = .ok (.aload_n 0, 1) := by decide +kernel
theorem dX5_kind_68 : decode cX5_kind 68 = .ok (.getfield 10, 3) := by decide +kernel
theorem dX5_kind_71 : decode cX5_kind 71 = .ok (.iload_n 1, 1) := by decide +kernel
theorem dX5_kind_72 : decode cX5_kind 72 = .ok (.invokevirtual 195, 3) := by decide +kernel
theorem dX5_kind_75 : decode cX5_kind 75 = .ok (.aload_n 0, 1) := by decide +kernel
theorem dX5_kind_76 : decode cX5_kind 76 = .ok (.getfield 10, 3) := by decide +kernel
theorem dX5_kind_79 : decode cX5_kind 79 = .ok (.iload_n 1, 1) := by decide +kernel
theorem dX5_kind_80 : decode cX5_kind 80 = .ok (.invokevirtual 198, 3) := by decide +kernel
theorem dX5_kind_83 : decode cX5_kind 83 = .ok (.isub, 1) := by decide +kernel
theorem dX5_kind_84 : decode cX5_kind 84 = .ok (.ireturn, 1) := by decide +kernel
theorem dX5_kind_85 : decode cX5_kind 85 = .ok (.aload_n 0, 1) := by decide +kernel
theorem dX5_kind_86 : decode cX5_kind 86 = .ok (.getfield 10, 3) := by decide +kernel
theorem dX5_kind_89 : decode cX5_kind 89 = .ok (.iload_n 1, 1) := by decide +kernel
theorem dX5_kind_90 : decode cX5_kind 90 = .ok (.invokevirtual 201, 3) := by decide +kernel
theorem dX5_kind_93 : decode cX5_kind 93 = .ok (.ireturn, 1) := by decide +kernel
theorem dX5_kind_94 : decode cX5_kind 94 = .ok (.aload_n 0, 1) := by decide +kernel
theorem dX5_kind_95 : decode cX5_kind 95 = .ok (.getfield 10, 3) := by decide +kernel
theorem dX5_kind_98 : decode cX5_kind 98 = .ok (.iload_n 1, 1) := by decide +kernel
theorem dX5_kind_99 : decode cX5_kind 99 = .ok (.invokevirtual 204, 3) := by decide +kernel
theorem dX5_kind_102 : decode cX5_kind 102 = .ok (.ireturn, 1) := by decide +kernel
theorem dX5_kind_103 : decode cX5_kind 103 = .ok (.aload_n 0, 1) := by decide +kernel
theorem dX5_kind_104 : decode cX5_kind 104 = .ok (.getfield 10, 3) := by decide +kernel
theorem dX5_kind_107 : decode cX5_kind 107 = .ok (.getfield 207, 3) := by decide +kernel
theorem dX5_kind_110 : decode cX5_kind 110 = .ok (.iload_n 1, 1) := by decide +kernel
theorem dX5_kind_111 : decode cX5_kind 111 = .ok (.iaload, 1) := by decide +kernel
theorem dX5_kind_112 : decode cX5_kind 112 = .ok (.ireturn, 1) := by decide +kernel
theorem dX5_kind_113 : decode cX5_kind 113 = .ok (.iconst (-1), 1) := by decide +kernel
theorem dX5_kind_114 : decode cX5_kind 114 = .ok (.ireturn, 1) := by decide +kernel
theorem dX5_count_0 : decode cX5_count 0 = .ok (.iload_n 1, 1) := by decide +kernel
theorem dX5_count_1 : decode cX5_count 1 = .ok (.tableswitch 223 0 15 #[79, 87, 95, 103, 111, 119, 127, 135, 143, 151, 159, 167, 175, 183, 207, 215], 79) := by decide +kernel
theorem dX5_count_80 : decode cX5_count 80 = .ok (.aload_n 0, 1) := by decide +kernel
theorem dX5_count_81 : decode cX5_count 81 = .ok (.getfield 10, 3) := by decide +kernel
theorem dX5_count_84 : decode cX5_count 84 = .ok (.getfield 210, 3) := by decide +kernel
theorem dX5_count_87 : decode cX5_count 87 = .ok (.ireturn, 1) := by decide +kernel
theorem dX5_count_88 : decode cX5_count 88 = .ok (.aload_n 0, 1) := by decide +kernel
theorem dX5_count_89 : decode cX5_count 89 = .ok (.getfield 10, 3) := by decide +kernel
theorem dX5_count_92 : decode cX5_count 92 = .ok (.getfield 61, 3) := by decide +kernel
theorem dX5_count_95 : decode cX5_count 95 = .ok (.ireturn, 1) := by decide +kernel
theorem dX5_count_96 : decode cX5_count 96 = .ok (.aload_n 0, 1) := by decide +kernel
theorem dX5_count_97 : decode cX5_count 97 = .ok (.getfield 10, 3) := by decide +kernel
theorem dX5_count_100 : decode cX5_count 100 = .ok (.invokevirtual 213, 3) := by decide +kernel
theorem dX5_count_103 : decode cX5_count 103 = .ok (.ireturn, 1) := by decide +kernel
theorem dX5_count_104 : decode cX5_count 104 = .ok (.aload_n 0, 1) := by decide +kernel
theorem dX5_count_105 : decode cX5_count 105 = .ok (.getfield 10, 3) := by decide +kernel
theorem dX5_count_108 : decode cX5_count 108 = .ok (.invokevirtual 141, 3) := by decide +kernel
theorem dX5_count_111 : decode cX5_count 111 = .ok (.ireturn, 1) := by decide +kernel
theorem dX5_count_112 : decode cX5_count 112 = .ok (.aload_n 0, 1) := by decide +kernel
theorem dX5_count_113 : decode cX5_count 113 = .ok (.getfield 10, 3) := by decide +kernel
theorem dX5_count_116 : decode cX5_count 116 = .ok (.invokevirtual 216, 3) := by decide +kernel
theorem dX5_count_119 : decode cX5_count 119 = .ok (.ireturn, 1) := by decide +kernel
theorem dX5_count_120 : decode cX5_count 120 = .ok (.aload_n 0, 1) := by decide +kernel
theorem dX5_count_121 : decode cX5_count 121 = .ok (.getfield 10, 3) := by decide +kernel
theorem dX5_count_124 : decode cX5_count 124 = .ok (.invokevirtual 219, 3) := by decide +kernel
theorem dX5_count_127 : decode cX5_count 127 = .ok (.ireturn, 1) := by decide +kernel
theorem dX5_count_128 : decode cX5_count 128 = .ok (.aload_n 0, 1) := by decide +kernel
theorem dX5_count_129 : decode cX5_count 129 = .ok (.getfield 10, 3) := by decide +kernel
theorem dX5_count_132 : decode cX5_count 132 = .ok (.getfield 222, 3) := by decide +kernel
theorem dX5_count_135 : decode cX5_count 135 = .ok (.ireturn, 1) := by decide +kernel
theorem dX5_count_136 : decode cX5_count 136 = .ok (.aload_n 0, 1) := by decide +kernel
theorem dX5_count_137 : decode cX5_count 137 = .ok (.getfield 10, 3) := by decide +kernel
theorem dX5_count_140 : decode cX5_count 140 = .ok (.getfield 225, 3) := by decide +kernel
theorem dX5_count_143 : decode cX5_count 143 = .ok (.ireturn, 1) := by decide +kernel
theorem dX5_count_144 : decode cX5_count 144 = .ok (.aload_n 0, 1) := by decide +kernel
theorem dX5_count_145 : decode cX5_count 145 = .ok (.getfield 10, 3) := by decide +kernel
theorem dX5_count_148 : decode cX5_count 148 = .ok (.getfield 228, 3) := by decide +kernel
theorem dX5_count_151 : decode cX5_count 151 = .ok (.ireturn, 1) := by decide +kernel
theorem dX5_count_152 : decode cX5_count 152 = .ok (.aload_n 0, 1) := by decide +kernel
theorem dX5_count_153 : decode cX5_count 153 = .ok (.getfield 10, 3) := by decide +kernel
theorem dX5_count_156 : decode cX5_count 156 = .ok (.getfield 231, 3) := by decide +kernel
theorem dX5_count_159 : decode cX5_count 159 = .ok (.ireturn, 1) := by decide +kernel
theorem dX5_count_160 : decode cX5_count 160 = .ok (.aload_n 0, 1) := by decide +kernel
theorem dX5_count_161 : decode cX5_count 161 = .ok (.getfield 10, 3) := by decide +kernel
theorem dX5_count_164 : decode cX5_count 164 = .ok (.invokevirtual 234, 3) := by decide +kernel
theorem dX5_count_167 : decode cX5_count 167 = .ok (.ireturn, 1) := by decide +kernel
theorem dX5_count_168 : decode cX5_count 168 = .ok (.aload_n 0, 1) := by decide +kernel
theorem dX5_count_169 : decode cX5_count 169 = .ok (.getfield 10, 3) := by decide +kernel
theorem dX5_count_172 : decode cX5_count 172 = .ok (.getfield 92, 3) := by decide +kernel
theorem dX5_count_175 : decode cX5_count 175 = .ok (.ireturn, 1) := by decide +kernel
theorem dX5_count_176 : decode cX5_count 176 = .ok (.aload_n 0, 1) := by decide +kernel
theorem dX5_count_177 : decode cX5_count 177 = .ok (.getfield 10, 3) := by decide +kernel
theorem dX5_count_180 : decode cX5_count 180 = .ok (.getfield 95, 3) := by decide +kernel
theorem dX5_count_183 : decode cX5_count 183 = .ok (.ireturn, 1) := by decide +kernel
theorem dX5_count_184 : decode cX5_count 184 = .ok (.aload_n 0, 1) := by decide +kernel
theorem dX5_count_185 : decode cX5_count 185 = .ok (.getfield 10, 3) := by decide +kernel
theorem dX5_count_188 : decode cX5_count 188 = .ok (.getfield 165, 3) := by decide +kernel
theorem dX5_count_191 : decode cX5_count 191 = .ok (.iconst (-1), 1) := by decide +kernel
theorem dX5_count_192 : decode cX5_count 192 = .ok (.if_icmp .ne 8, 3) := by decide +kernel
theorem dX5_count_195 : decode cX5_count 195 = .ok (.bipush (-4), 2) := by decide +kernel
theorem dX5_count_197 : decode cX5_count 197 = .ok (.goto 10, 3) := by decide +kernel
theorem dX5_count_200 : decode cX5_count 200 = .ok (.aload_n 0, 1) := by decide +kernel
theorem dX5_count_201 : decode cX5_count 201 = .ok (.getfield 10, 3) := by decide +kernel
theorem dX5_count_204 : decode cX5_count 204 = .ok (.getfield 165, 3) := by decide +kernel
theorem dX5_count_207 : decode cX5_count 207 = .ok (.ireturn, 1) := by decide +kernel
theorem dX5_count_208 : decode cX5_count 208 = .ok (.aload_n 0, 1) := by decide +kernel
theorem dX5_count_209 : decode cX5_count 209 = .ok (.getfield 32, 3) := by decide +kernel
theorem dX5_count_212 : decode cX5_count 212 = .ok (.getfield 114, 3) := by decide +kernel
theorem dX5_count_215 : decode cX5_count 215 = .ok (.ireturn, 1) := by decide +kernel
theorem dX5_count_216 : decode cX5_count 216 = .ok (.aload_n 0, 1) := by decide +kernel
theorem dX5_count_217 : decode cX5_count 217 = .ok (.getfield 25, 3) := by decide +kernel
theorem dX5_count_220 : decode cX5_count 220 = .ok (.getfield 237, 3) := by decide +kernel
theorem dX5_count_223 : decode cX5_count 223 = .ok (.ireturn, 1) := by decide +kernel
theorem dX5_count_224 : decode cX5_count 224 = .ok (.iconst (-1), 1) := by decide +kernel
theorem dX5_count_225 : decode cX5_count 225 = .ok (.ireturn, 1) := by decide +kernel
theorem dX5_freshness_0 : decode cX5_freshness 0 = .ok (.aload_n 0, 1) := by decide +kernel
theorem dX5_freshness_1 : decode cX5_freshness 1 = .ok (.getfield 10, 3) := by decide +kernel
theorem dX5_freshness_4 : decode cX5_freshness 4 = .ok (.invokevirtual 216, 3) := by decide +kernel
theorem dX5_freshness_7 : decode cX5_freshness 7 = .ok (.istore_n 1, 1) := by decide +kernel
theorem dX5_freshness_8 : decode cX5_freshness 8 = .ok (.iload_n 1, 1) := by decide +kernel
theorem dX5_freshness_9 : decode cX5_freshness 9 = .ok (.ifCond .le 17, 3) := by decide +kernel
theorem dX5_freshness_12 : decode cX5_freshness 12 = .ok (.aload_n 0, 1) := by decide +kernel
theorem dX5_freshness_13 : decode cX5_freshness 13 = .ok (.getfield 10, 3) := by decide +kernel
theorem dX5_freshness_16 : decode cX5_freshness 16 = .ok (.invokevirtual 240, 3) := by decide +kernel
theorem dX5_freshness_19 : decode cX5_freshness 19 = .ok (.i2d, 1) := by decide +kernel
theorem dX5_freshness_20 : decode cX5_freshness 20 = .ok (.iload_n 1, 1) := by decide +kernel
theorem dX5_freshness_21 : decode cX5_freshness 21 = .ok (.i2d, 1) := by decide +kernel
theorem dX5_freshness_22 : decode cX5_freshness 22 = .ok (.ddiv, 1) := by decide +kernel
theorem dX5_freshness_23 : decode cX5_freshness 23 = .ok (.goto 4, 3) := by decide +kernel
theorem dX5_freshness_26 : decode cX5_freshness 26 = .ok (.dconst 0, 1) := by decide +kernel
theorem dX5_freshness_27 : decode cX5_freshness 27 = .ok (.dreturn, 1) := by decide +kernel
theorem dX5_ifCircle_0 : decode cX5_ifCircle 0 = .ok (.iload_n 1, 1) := by decide +kernel
theorem dX5_ifCircle_1 : decode cX5_ifCircle 1 = .ok (.invokestatic 89, 3) := by decide +kernel
theorem dX5_ifCircle_4 : decode cX5_ifCircle 4 = .ok (.ifCond .eq 18, 3) := by decide +kernel
theorem dX5_ifCircle_7 : decode cX5_ifCircle 7 = .ok (.aload_n 0, 1) := by decide +kernel
theorem dX5_ifCircle_8 : decode cX5_ifCircle 8 = .ok (.getfield 39, 3) := by decide +kernel
theorem dX5_ifCircle_11 : decode cX5_ifCircle 11 = .ok (.aload_n 0, 1) := by decide +kernel
theorem dX5_ifCircle_12 : decode cX5_ifCircle 12 = .ok (.getfield 10, 3) := by decide +kernel
theorem dX5_ifCircle_15 : decode cX5_ifCircle 15 = .ok (.iload_n 1, 1) := by decide +kernel
theorem dX5_ifCircle_16 : decode cX5_ifCircle 16 = .ok (.invokevirtual 188, 3) := by decide +kernel
theorem dX5_ifCircle_19 : decode cX5_ifCircle 19 = .ok (.goto 4, 3) := by decide +kernel
theorem dX5_ifCircle_22 : decode cX5_ifCircle 22 = .ok (.iconst (-1), 1) := by decide +kernel
theorem dX5_ifCircle_23 : decode cX5_ifCircle 23 = .ok (.ireturn, 1) := by decide +kernel
theorem dX5_ifDays_0 : decode cX5_ifDays 0 = .ok (.iload_n 1, 1) := by decide +kernel
theorem dX5_ifDays_1 : decode cX5_ifDays 1 = .ok (.iconst 1, 1) := by decide +kernel
theorem dX5_ifDays_2 : decode cX5_ifDays 2 = .ok (.if_icmp .lt 18, 3) := by decide +kernel
theorem dX5_ifDays_5 : decode cX5_ifDays 5 = .ok (.iload_n 1, 1) := by decide +kernel
theorem dX5_ifDays_6 : decode cX5_ifDays 6 = .ok (.bipush 20, 2) := by decide +kernel
theorem dX5_ifDays_8 : decode cX5_ifDays 8 = .ok (.if_icmp .gt 12, 3) := by decide +kernel
theorem dX5_ifDays_11 : decode cX5_ifDays 11 = .ok (.iload_n 2, 1) := by decide +kernel
theorem dX5_ifDays_12 : decode cX5_ifDays 12 = .ok (.ifCond .lt 8, 3) := by decide +kernel
theorem dX5_ifDays_15 : decode cX5_ifDays 15 = .ok (.iload_n 2, 1) := by decide +kernel
theorem dX5_ifDays_16 : decode cX5_ifDays 16 = .ok (.iconst 2, 1) := by decide +kernel
theorem dX5_ifDays_17 : decode cX5_ifDays 17 = .ok (.if_icmp .le 5, 3) := by decide +kernel
theorem dX5_ifDays_20 : decode cX5_ifDays 20 = .ok (.iconst (-1), 1) := by decide +kernel
theorem dX5_ifDays_21 : decode cX5_ifDays 21 = .ok (.ireturn, 1) := by decide +kernel
theorem dX5_ifDays_22 : decode cX5_ifDays 22 = .ok (.aload_n 0, 1) := by decide +kernel
theorem dX5_ifDays_23 : decode cX5_ifDays 23 = .ok (.getfield 16, 3) := by decide +kernel
theorem dX5_ifDays_26 : decode cX5_ifDays 26 = .ok (.aload_n 0, 1) := by decide +kernel
theorem dX5_ifDays_27 : decode cX5_ifDays 27 = .ok (.getfield 10, 3) := by decide +kernel
theorem dX5_ifDays_30 : decode cX5_ifDays 30 = .ok (.invokevirtual 243, 3) := by decide +kernel
theorem dX5_ifDays_33 : decode cX5_ifDays 33 = .ok (.iconst 0, 1) := by decide +kernel
theorem dX5_ifDays_34 : decode cX5_ifDays 34 = .ok (.istore_n 3, 1) := by decide +kernel
theorem dX5_ifDays_35 : decode cX5_ifDays 35 = .ok (.iload_n 3, 1) := by decide +kernel
theorem dX5_ifDays_36 : decode cX5_ifDays 36 = .ok (.iload_n 1, 1) := by decide +kernel
theorem dX5_ifDays_37 : decode cX5_ifDays 37 = .ok (.if_icmp .ge 26, 3) := by decide +kernel
theorem dX5_ifDays_40 : decode cX5_ifDays 40 = .ok (.aload_n 0, 1) := by decide +kernel
theorem dX5_ifDays_41 : decode cX5_ifDays 41 = .ok (.aload_n 0, 1) := by decide +kernel
theorem dX5_ifDays_42 : decode cX5_ifDays 42 = .ok (.getfield 16, 3) := by decide +kernel
theorem dX5_ifDays_45 : decode cX5_ifDays 45 = .ok (.invokevirtual 106, 3) := by decide +kernel
theorem dX5_ifDays_48 : decode cX5_ifDays 48 = .ok (.pop, 1) := by decide +kernel
theorem dX5_ifDays_49 : decode cX5_ifDays 49 = .ok (.aload_n 0, 1) := by decide +kernel
theorem dX5_ifDays_50 : decode cX5_ifDays 50 = .ok (.getfield 16, 3) := by decide +kernel
theorem dX5_ifDays_53 : decode cX5_ifDays 53 = .ok (.invokevirtual 110, 3) := by decide +kernel
theorem dX5_ifDays_56 : decode cX5_ifDays 56 = .ok (.pop, 1) := by decide +kernel
theorem dX5_ifDays_57 : decode cX5_ifDays 57 = .ok (.iinc 3 1, 3) := by decide +kernel
theorem dX5_ifDays_60 : decode cX5_ifDays 60 = .ok (.goto (-25), 3) := by decide +kernel
theorem dX5_ifDays_63 : decode cX5_ifDays 63 = .ok (.iload_n 2, 1) := by decide +kernel
theorem dX5_ifDays_64 : decode cX5_ifDays 64 = .ok (.lookupswitch 60 #[(0, 28), (1, 44)], 28) := by decide +kernel
theorem dX5_ifDays_92 : decode cX5_ifDays 92 = .ok (.aload_n 0, 1) := by decide +kernel
theorem dX5_ifDays_93 : decode cX5_ifDays 93 = .ok (.getfield 16, 3) := by decide +kernel
theorem dX5_ifDays_96 : decode cX5_ifDays 96 = .ok (.invokevirtual 141, 3) := by decide +kernel
theorem dX5_ifDays_99 : decode cX5_ifDays 99 = .ok (.aload_n 0, 1) := by decide +kernel
theorem dX5_ifDays_100 : decode cX5_ifDays 100 = .ok (.getfield 10, 3) := by decide +kernel
theorem dX5_ifDays_103 : decode cX5_ifDays 103 = .ok (.invokevirtual 141, 3) := by decide +kernel
theorem dX5_ifDays_106 : decode cX5_ifDays 106 = .ok (.isub, 1) := by decide +kernel
theorem dX5_ifDays_107 : decode cX5_ifDays 107 = .ok (.ireturn, 1) := by decide +kernel
theorem dX5_ifDays_108 : decode cX5_ifDays 108 = .ok (.aload_n 0, 1) := by decide +kernel
theorem dX5_ifDays_109 : decode cX5_ifDays 109 = .ok (.getfield 16, 3) := by decide +kernel
theorem dX5_ifDays_112 : decode cX5_ifDays 112 = .ok (.getfield 222, 3) := by decide +kernel
theorem dX5_ifDays_115 : decode cX5_ifDays 115 = .ok (.aload_n 0, 1) := by decide +kernel
theorem dX5_ifDays_116 : decode cX5_ifDays 116 = .ok (.getfield 10, 3) := by decide +kernel
theorem dX5_ifDays_119 : decode cX5_ifDays 119 = .ok (.getfield 222, 3) := by decide +kernel
theorem dX5_ifDays_122 : decode cX5_ifDays 122 = .ok (.isub, 1) := by decide +kernel
theorem dX5_ifDays_123 : decode cX5_ifDays 123 = .ok (.ireturn, 1) := by decide +kernel
theorem dX5_ifDays_124 : decode cX5_ifDays 124 = .ok (.aload_n 0, 1) := by decide +kernel
theorem dX5_ifDays_125 : decode cX5_ifDays 125 = .ok (.getfield 16, 3) := by decide +kernel
theorem dX5_ifDays_128 : decode cX5_ifDays 128 = .ok (.invokevirtual 213, 3) := by decide +kernel
theorem dX5_ifDays_131 : decode cX5_ifDays 131 = .ok (.ireturn, 1) := by decide +kernel
theorem dX5_bestWant_0 : decode cX5_bestWant 0 = .ok (.aload_n 0, 1) := by decide +kernel
theorem dX5_bestWant_1 : decode cX5_bestWant 1 = .ok (.getfield 10, 3) := by decide +kernel
theorem dX5_bestWant_4 : decode cX5_bestWant 4 = .ok (.iload_n 1, 1) := by decide +kernel
theorem dX5_bestWant_5 : decode cX5_bestWant 5 = .ok (.invokevirtual 72, 3) := by decide +kernel
theorem dX5_bestWant_8 : decode cX5_bestWant 8 = .ok (.ifCond .ne 5, 3) := by decide +kernel
theorem dX5_bestWant_11 : decode cX5_bestWant 11 = .ok (.iconst (-1), 1) := by decide +kernel
theorem dX5_bestWant_12 : decode cX5_bestWant 12 = .ok (.ireturn, 1) := by decide +kernel
theorem dX5_bestWant_13 : decode cX5_bestWant 13 = .ok (.aload_n 0, 1) := by decide +kernel
theorem dX5_bestWant_14 : decode cX5_bestWant 14 = .ok (.getfield 16, 3) := by decide +kernel
theorem dX5_bestWant_17 : decode cX5_bestWant 17 = .ok (.aload_n 0, 1) := by decide +kernel
theorem dX5_bestWant_18 : decode cX5_bestWant 18 = .ok (.getfield 10, 3) := by decide +kernel
theorem dX5_bestWant_21 : decode cX5_bestWant 21 = .ok (.invokevirtual 243, 3) := by decide +kernel
theorem dX5_bestWant_24 : decode cX5_bestWant 24 = .ok (.aload_n 0, 1) := by decide +kernel
theorem dX5_bestWant_25 : decode cX5_bestWant 25 = .ok (.getfield 10, 3) := by decide +kernel
theorem dX5_bestWant_28 : decode cX5_bestWant 28 = .ok (.getfield 83, 3) := by decide +kernel
theorem dX5_bestWant_31 : decode cX5_bestWant 31 = .ok (.iload_n 1, 1) := by decide +kernel
theorem dX5_bestWant_32 : decode cX5_bestWant 32 = .ok (.iaload, 1) := by decide +kernel
theorem dX5_bestWant_33 : decode cX5_bestWant 33 = .ok (.istore_n 2, 1) := by decide +kernel
theorem dX5_bestWant_34 : decode cX5_bestWant 34 = .ok (.bipush (-4), 2) := by decide +kernel
theorem dX5_bestWant_36 : decode cX5_bestWant 36 = .ok (.istore_n 3, 1) := by decide +kernel
theorem dX5_bestWant_37 : decode cX5_bestWant 37 = .ok (.iconst (-1), 1) := by decide +kernel
theorem dX5_bestWant_38 : decode cX5_bestWant 38 = .ok (.istore 4, 2) := by decide +kernel
theorem dX5_bestWant_40 : decode cX5_bestWant 40 = .ok (.iconst 0, 1) := by decide +kernel
theorem dX5_bestWant_41 : decode cX5_bestWant 41 = .ok (.istore 5, 2) := by decide +kernel
theorem dX5_bestWant_43 : decode cX5_bestWant 43 = .ok (.iload 5, 2) := by decide +kernel
theorem dX5_bestWant_45 : decode cX5_bestWant 45 = .ok (.bipush 6, 2) := by decide +kernel
theorem dX5_bestWant_47 : decode cX5_bestWant 47 = .ok (.if_icmp .ge 67, 3) := by decide +kernel
theorem dX5_bestWant_50 : decode cX5_bestWant 50 = .ok (.iload_n 2, 1) := by decide +kernel
theorem dX5_bestWant_51 : decode cX5_bestWant 51 = .ok (.iload 5, 2) := by decide +kernel
theorem dX5_bestWant_53 : decode cX5_bestWant 53 = .ok (.invokestatic 246, 3) := by decide +kernel
theorem dX5_bestWant_56 : decode cX5_bestWant 56 = .ok (.ifCond .ne 52, 3) := by decide +kernel
theorem dX5_bestWant_59 : decode cX5_bestWant 59 = .ok (.aload_n 0, 1) := by decide +kernel
theorem dX5_bestWant_60 : decode cX5_bestWant 60 = .ok (.getfield 16, 3) := by decide +kernel
theorem dX5_bestWant_63 : decode cX5_bestWant 63 = .ok (.getfield 83, 3) := by decide +kernel
theorem dX5_bestWant_66 : decode cX5_bestWant 66 = .ok (.iload_n 1, 1) := by decide +kernel
theorem dX5_bestWant_67 : decode cX5_bestWant 67 = .ok (.iload_n 2, 1) := by decide +kernel
theorem dX5_bestWant_68 : decode cX5_bestWant 68 = .ok (.iload 5, 2) := by decide +kernel
theorem dX5_bestWant_70 : decode cX5_bestWant 70 = .ok (.invokestatic 249, 3) := by decide +kernel
theorem dX5_bestWant_73 : decode cX5_bestWant 73 = .ok (.iastore, 1) := by decide +kernel
theorem dX5_bestWant_74 : decode cX5_bestWant 74 = .ok (.aload_n 0, 1) := by decide +kernel
theorem dX5_bestWant_75 : decode cX5_bestWant 75 = .ok (.getfield 39, 3) := by decide +kernel
theorem dX5_bestWant_78 : decode cX5_bestWant 78 = .ok (.aload_n 0, 1) := by decide +kernel
theorem dX5_bestWant_79 : decode cX5_bestWant 79 = .ok (.getfield 16, 3) := by decide +kernel
theorem dX5_bestWant_82 : decode cX5_bestWant 82 = .ok (.aload_n 0, 1) := by decide +kernel
theorem dX5_bestWant_83 : decode cX5_bestWant 83 = .ok (.getfield 16, 3) := by decide +kernel
theorem dX5_bestWant_86 : decode cX5_bestWant 86 = .ok (.getfield 92, 3) := by decide +kernel
theorem dX5_bestWant_89 : decode cX5_bestWant 89 = .ok (.invokevirtual 188, 3) := by decide +kernel
theorem dX5_bestWant_92 : decode cX5_bestWant 92 = .ok (.istore 6, 2) := by decide +kernel
theorem dX5_bestWant_94 : decode cX5_bestWant 94 = .ok (.iload 6, 2) := by decide +kernel
theorem dX5_bestWant_96 : decode cX5_bestWant 96 = .ok (.iload 4, 2) := by decide +kernel
theorem dX5_bestWant_98 : decode cX5_bestWant 98 = .ok (.if_icmp .le 10, 3) := by decide +kernel
theorem dX5_bestWant_101 : decode cX5_bestWant 101 = .ok (.iload 6, 2) := by decide +kernel
theorem dX5_bestWant_103 : decode cX5_bestWant 103 = .ok (.istore 4, 2) := by decide +kernel
theorem dX5_bestWant_105 : decode cX5_bestWant 105 = .ok (.iload 5, 2) := by decide +kernel
theorem dX5_bestWant_107 : decode cX5_bestWant 107 = .ok (.istore_n 3, 1) := by decide +kernel
theorem dX5_bestWant_108 : decode cX5_bestWant 108 = .ok (.iinc 5 1, 3) := by decide +kernel
theorem dX5_bestWant_111 : decode cX5_bestWant 111 = .ok (.goto (-68), 3) := by decide +kernel
theorem dX5_bestWant_114 : decode cX5_bestWant 114 = .ok (.iload_n 3, 1) := by decide +kernel
theorem dX5_bestWant_115 : decode cX5_bestWant 115 = .ok (.ireturn, 1) := by decide +kernel
theorem dX5_undo_0 : decode cX5_undo 0 = .ok (.aload_n 0, 1) := by decide +kernel
theorem dX5_undo_1 : decode cX5_undo 1 = .ok (.getfield 25, 3) := by decide +kernel
theorem dX5_undo_4 : decode cX5_undo 4 = .ok (.getfield 237, 3) := by decide +kernel
theorem dX5_undo_7 : decode cX5_undo 7 = .ok (.ifCond .gt 6, 3) := by decide +kernel
theorem dX5_undo_10 : decode cX5_undo 10 = .ok (.bipush (-2), 2) := by decide +kernel
theorem dX5_undo_12 : decode cX5_undo 12 = .ok (.ireturn, 1) := by decide +kernel
theorem dX5_undo_13 : decode cX5_undo 13 = .ok (.aload_n 0, 1) := by decide +kernel
theorem dX5_undo_14 : decode cX5_undo 14 = .ok (.getfield 25, 3) := by decide +kernel
theorem dX5_undo_17 : decode cX5_undo 17 = .ok (.aload_n 0, 1) := by decide +kernel
theorem dX5_undo_18 : decode cX5_undo 18 = .ok (.getfield 10, 3) := by decide +kernel
theorem dX5_undo_21 : decode cX5_undo 21 = .ok (.invokevirtual 252, 3) := by decide +kernel
theorem dX5_undo_24 : decode cX5_undo 24 = .ok (.aload_n 0, 1) := by decide +kernel
theorem dX5_undo_25 : decode cX5_undo 25 = .ok (.getfield 25, 3) := by decide +kernel
theorem dX5_undo_28 : decode cX5_undo 28 = .ok (.getfield 237, 3) := by decide +kernel
theorem dX5_undo_31 : decode cX5_undo 31 = .ok (.ireturn, 1) := by decide +kernel
theorem dX5_restore_0 : decode cX5_restore 0 = .ok (.aload_n 0, 1) := by decide +kernel
theorem dX5_restore_1 : decode cX5_restore 1 = .ok (.getfield 255, 3) := by decide +kernel
theorem dX5_restore_4 : decode cX5_restore 4 = .ok (.ifCond .ne 6, 3) := by decide +kernel
theorem dX5_restore_7 : decode cX5_restore 7 = .ok (.bipush (-2), 2) := by decide +kernel
theorem dX5_restore_9 : decode cX5_restore 9 = .ok (.ireturn, 1) := by decide +kernel
theorem dX5_restore_10 : decode cX5_restore 10 = .ok (.aload_n 0, 1) := by decide +kernel
theorem dX5_restore_11 : decode cX5_restore 11 = .ok (.getfield 25, 3) := by decide +kernel
theorem dX5_restore_14 : decode cX5_restore 14 = .ok (.aload_n 0, 1) := by decide +kernel
theorem dX5_restore_15 : decode cX5_restore 15 = .ok (.getfield 10, 3) := by decide +kernel
theorem dX5_restore_18 : decode cX5_restore 18 = .ok (.invokevirtual 64, 3) := by decide +kernel
theorem dX5_restore_21 : decode cX5_restore 21 = .ok (.aload_n 0, 1) := by decide +kernel
theorem dX5_restore_22 : decode cX5_restore 22 = .ok (.getfield 10, 3) := by decide +kernel
theorem dX5_restore_25 : decode cX5_restore 25 = .ok (.aload_n 0, 1) := by decide +kernel
theorem dX5_restore_26 : decode cX5_restore 26 = .ok (.getfield 19, 3) := by decide +kernel
theorem dX5_restore_29 : decode cX5_restore 29 = .ok (.invokevirtual 243, 3) := by decide +kernel
theorem dX5_restore_32 : decode cX5_restore 32 = .ok (.aload_n 0, 1) := by decide +kernel
theorem dX5_restore_33 : decode cX5_restore 33 = .ok (.getfield 10, 3) := by decide +kernel
theorem dX5_restore_36 : decode cX5_restore 36 = .ok (.getfield 210, 3) := by decide +kernel
theorem dX5_restore_39 : decode cX5_restore 39 = .ok (.ireturn, 1) := by decide +kernel
theorem dX5_isKind_0 : decode cX5_isKind 0 = .ok (.iload_n 0, 1) := by decide +kernel
theorem dX5_isKind_1 : decode cX5_isKind 1 = .ok (.ifCond .lt 13, 3) := by decide +kernel
theorem dX5_isKind_4 : decode cX5_isKind 4 = .ok (.iload_n 0, 1) := by decide +kernel
theorem dX5_isKind_5 : decode cX5_isKind 5 = .ok (.bipush 6, 2) := by decide +kernel
theorem dX5_isKind_7 : decode cX5_isKind 7 = .ok (.if_icmp .ge 7, 3) := by decide +kernel
theorem dX5_isKind_10 : decode cX5_isKind 10 = .ok (.iconst 1, 1) := by decide +kernel
theorem dX5_isKind_11 : decode cX5_isKind 11 = .ok (.goto 4, 3) := by decide +kernel
theorem dX5_isKind_14 : decode cX5_isKind 14 = .ok (.iconst 0, 1) := by decide +kernel
theorem dX5_isKind_15 : decode cX5_isKind 15 = .ok (.ireturn, 1) := by decide +kernel
theorem dX5_isSetOfKinds_0 : decode cX5_isSetOfKinds 0 = .ok (.iload_n 0, 1) := by decide +kernel
theorem dX5_isSetOfKinds_1 : decode cX5_isSetOfKinds 1 = .ok (.ifCond .lt 13, 3) := by decide +kernel
theorem dX5_isSetOfKinds_4 : decode cX5_isSetOfKinds 4 = .ok (.iload_n 0, 1) := by decide +kernel
theorem dX5_isSetOfKinds_5 : decode cX5_isSetOfKinds 5 = .ok (.bipush 63, 2) := by decide +kernel
theorem dX5_isSetOfKinds_7 : decode cX5_isSetOfKinds 7 = .ok (.if_icmp .gt 7, 3) := by decide +kernel
theorem dX5_isSetOfKinds_10 : decode cX5_isSetOfKinds 10 = .ok (.iconst 1, 1) := by decide +kernel
theorem dX5_isSetOfKinds_11 : decode cX5_isSetOfKinds 11 = .ok (.goto 4, 3) := by decide +kernel
theorem dX5_isSetOfKinds_14 : decode cX5_isSetOfKinds 14 = .ok (.iconst 0, 1) := by decide +kernel
theorem dX5_isSetOfKinds_15 : decode cX5_isSetOfKinds 15 = .ok (.ireturn, 1) := by decide +kernel
theorem dX5_isCircleLength_0 : decode cX5_isCircleLength 0 = .ok (.iload_n 0, 1) := by decide +kernel
theorem dX5_isCircleLength_1 : decode cX5_isCircleLength 1 = .ok (.iconst 2, 1) := by decide +kernel
theorem dX5_isCircleLength_2 : decode cX5_isCircleLength 2 = .ok (.if_icmp .lt 13, 3) := by decide +kernel
theorem dX5_isCircleLength_5 : decode cX5_isCircleLength 5 = .ok (.iload_n 0, 1) := by decide +kernel
theorem dX5_isCircleLength_6 : decode cX5_isCircleLength 6 = .ok (.bipush 7, 2) := by decide +kernel
theorem dX5_isCircleLength_8 : decode cX5_isCircleLength 8 = .ok (.if_icmp .gt 7, 3) := by decide +kernel
theorem dX5_isCircleLength_11 : decode cX5_isCircleLength 11 = .ok (.iconst 1, 1) := by decide +kernel
theorem dX5_isCircleLength_12 : decode cX5_isCircleLength 12 = .ok (.goto 4, 3) := by decide +kernel
theorem dX5_isCircleLength_15 : decode cX5_isCircleLength 15 = .ok (.iconst 0, 1) := by decide +kernel
theorem dX5_isCircleLength_16 : decode cX5_isCircleLength 16 = .ok (.ireturn, 1) := by decide +kernel
theorem dX5_holds_0 : decode cX5_holds 0 = .ok (.iload_n 0, 1) := by decide +kernel
theorem dX5_holds_1 : decode cX5_holds 1 = .ok (.iload_n 1, 1) := by decide +kernel
theorem dX5_holds_2 : decode cX5_holds 2 = .ok (.ishr, 1) := by decide +kernel
theorem dX5_holds_3 : decode cX5_holds 3 = .ok (.iconst 1, 1) := by decide +kernel
theorem dX5_holds_4 : decode cX5_holds 4 = .ok (.iand, 1) := by decide +kernel
theorem dX5_holds_5 : decode cX5_holds 5 = .ok (.ifCond .eq 7, 3) := by decide +kernel
theorem dX5_holds_8 : decode cX5_holds 8 = .ok (.iconst 1, 1) := by decide +kernel
theorem dX5_holds_9 : decode cX5_holds 9 = .ok (.goto 4, 3) := by decide +kernel
theorem dX5_holds_12 : decode cX5_holds 12 = .ok (.iconst 0, 1) := by decide +kernel
theorem dX5_holds_13 : decode cX5_holds 13 = .ok (.ireturn, 1) := by decide +kernel
theorem dX5_with_0 : decode cX5_with 0 = .ok (.iload_n 0, 1) := by decide +kernel
theorem dX5_with_1 : decode cX5_with 1 = .ok (.iconst 1, 1) := by decide +kernel
theorem dX5_with_2 : decode cX5_with 2 = .ok (.iload_n 1, 1) := by decide +kernel
theorem dX5_with_3 : decode cX5_with 3 = .ok (.ishl, 1) := by decide +kernel
theorem dX5_with_4 : decode cX5_with 4 = .ok (.ior, 1) := by decide +kernel
theorem dX5_with_5 : decode cX5_with 5 = .ok (.ireturn, 1) := by decide +kernel
theorem dX5_callMarket_0 : decode cX5_callMarket 0 = .ok (.aload_n 0, 1) := by decide +kernel
theorem dX5_callMarket_1 : decode cX5_callMarket 1 = .ok (.getfield 46, 3) := by decide +kernel
theorem dX5_callMarket_4 : decode cX5_callMarket 4 = .ok (.aload_n 1, 1) := by decide +kernel
theorem dX5_callMarket_5 : decode cX5_callMarket 5 = .ok (.invokevirtual 192, 3) := by decide +kernel
theorem dX5_callMarket_8 : decode cX5_callMarket 8 = .ok (.istore_n 2, 1) := by decide +kernel
theorem dX5_callMarket_9 : decode cX5_callMarket 9 = .ok (.aload_n 1, 1) := by decide +kernel
theorem dX5_callMarket_10 : decode cX5_callMarket 10 = .ok (.aload_n 0, 1) := by decide +kernel
theorem dX5_callMarket_11 : decode cX5_callMarket 11 = .ok (.getfield 46, 3) := by decide +kernel
theorem dX5_callMarket_14 : decode cX5_callMarket 14 = .ok (.getfield 259, 3) := by decide +kernel
theorem dX5_callMarket_17 : decode cX5_callMarket 17 = .ok (.invokevirtual 262, 3) := by decide +kernel
theorem dX5_callMarket_20 : decode cX5_callMarket 20 = .ok (.aload_n 1, 1) := by decide +kernel
theorem dX5_callMarket_21 : decode cX5_callMarket 21 = .ok (.dup, 1) := by decide +kernel
theorem dX5_callMarket_22 : decode cX5_callMarket 22 = .ok (.getfield 228, 3) := by decide +kernel
theorem dX5_callMarket_25 : decode cX5_callMarket 25 = .ok (.iconst 1, 1) := by decide +kernel
theorem dX5_callMarket_26 : decode cX5_callMarket 26 = .ok (.iadd, 1) := by decide +kernel
theorem dX5_callMarket_27 : decode cX5_callMarket 27 = .ok (.putfield 228, 3) := by decide +kernel
theorem dX5_callMarket_30 : decode cX5_callMarket 30 = .ok (.iload_n 2, 1) := by decide +kernel
theorem dX5_callMarket_31 : decode cX5_callMarket 31 = .ok (.ireturn, 1) := by decide +kernel
theorem dX5_bestGiver_0 : decode cX5_bestGiver 0 = .ok (.aload_n 0, 1) := by decide +kernel
theorem dX5_bestGiver_1 : decode cX5_bestGiver 1 = .ok (.getfield 46, 3) := by decide +kernel
theorem dX5_bestGiver_4 : decode cX5_bestGiver 4 = .ok (.aload_n 0, 1) := by decide +kernel
theorem dX5_bestGiver_5 : decode cX5_bestGiver 5 = .ok (.getfield 10, 3) := by decide +kernel
theorem dX5_bestGiver_8 : decode cX5_bestGiver 8 = .ok (.invokevirtual 192, 3) := by decide +kernel
theorem dX5_bestGiver_11 : decode cX5_bestGiver 11 = .ok (.pop, 1) := by decide +kernel
theorem dX5_bestGiver_12 : decode cX5_bestGiver 12 = .ok (.aload_n 0, 1) := by decide +kernel
theorem dX5_bestGiver_13 : decode cX5_bestGiver 13 = .ok (.getfield 46, 3) := by decide +kernel
theorem dX5_bestGiver_16 : decode cX5_bestGiver 16 = .ok (.getfield 259, 3) := by decide +kernel
theorem dX5_bestGiver_19 : decode cX5_bestGiver 19 = .ok (.iload_n 1, 1) := by decide +kernel
theorem dX5_bestGiver_20 : decode cX5_bestGiver 20 = .ok (.iaload, 1) := by decide +kernel
theorem dX5_bestGiver_21 : decode cX5_bestGiver 21 = .ok (.istore_n 2, 1) := by decide +kernel
theorem dX5_bestGiver_22 : decode cX5_bestGiver 22 = .ok (.iload_n 2, 1) := by decide +kernel
theorem dX5_bestGiver_23 : decode cX5_bestGiver 23 = .ok (.iconst (-1), 1) := by decide +kernel
theorem dX5_bestGiver_24 : decode cX5_bestGiver 24 = .ok (.if_icmp .ne 8, 3) := by decide +kernel
theorem dX5_bestGiver_27 : decode cX5_bestGiver 27 = .ok (.bipush (-4), 2) := by decide +kernel
theorem dX5_bestGiver_29 : decode cX5_bestGiver 29 = .ok (.goto 4, 3) := by decide +kernel
theorem dX5_bestGiver_32 : decode cX5_bestGiver 32 = .ok (.iload_n 2, 1) := by decide +kernel
theorem dX5_bestGiver_33 : decode cX5_bestGiver 33 = .ok (.ireturn, 1) := by decide +kernel
theorem dJ6_bitCount_0f7a4_0 : decode cJ6_bitCount_0f7a4 0 = .ok (.iload_n 0, 1) := by decide +kernel
theorem dJ6_bitCount_0f7a4_1 : decode cJ6_bitCount_0f7a4 1 = .ok (.iload_n 0, 1) := by decide +kernel
theorem dJ6_bitCount_0f7a4_2 : decode cJ6_bitCount_0f7a4 2 = .ok (.iconst 1, 1) := by decide +kernel
theorem dJ6_bitCount_0f7a4_3 : decode cJ6_bitCount_0f7a4 3 = .ok (.iushr, 1) := by decide +kernel
theorem dJ6_bitCount_0f7a4_4 : decode cJ6_bitCount_0f7a4 4 = .ok (.ldc_w 265, 3) := by decide +kernel
theorem dJ6_bitCount_0f7a4_7 : decode cJ6_bitCount_0f7a4 7 = .ok (.iand, 1) := by decide +kernel
theorem dJ6_bitCount_0f7a4_8 : decode cJ6_bitCount_0f7a4 8 = .ok (.isub, 1) := by decide +kernel
theorem dJ6_bitCount_0f7a4_9 : decode cJ6_bitCount_0f7a4 9 = .ok (.istore_n 0, 1) := by decide +kernel
theorem dJ6_bitCount_0f7a4_10 : decode cJ6_bitCount_0f7a4 10 = .ok (.iload_n 0, 1) := by decide +kernel
theorem dJ6_bitCount_0f7a4_11 : decode cJ6_bitCount_0f7a4 11 = .ok (.ldc_w 266, 3) := by decide +kernel
theorem dJ6_bitCount_0f7a4_14 : decode cJ6_bitCount_0f7a4 14 = .ok (.iand, 1) := by decide +kernel
theorem dJ6_bitCount_0f7a4_15 : decode cJ6_bitCount_0f7a4 15 = .ok (.iload_n 0, 1) := by decide +kernel
theorem dJ6_bitCount_0f7a4_16 : decode cJ6_bitCount_0f7a4 16 = .ok (.iconst 2, 1) := by decide +kernel
theorem dJ6_bitCount_0f7a4_17 : decode cJ6_bitCount_0f7a4 17 = .ok (.iushr, 1) := by decide +kernel
theorem dJ6_bitCount_0f7a4_18 : decode cJ6_bitCount_0f7a4 18 = .ok (.ldc_w 266, 3) := by decide +kernel
theorem dJ6_bitCount_0f7a4_21 : decode cJ6_bitCount_0f7a4 21 = .ok (.iand, 1) := by decide +kernel
theorem dJ6_bitCount_0f7a4_22 : decode cJ6_bitCount_0f7a4 22 = .ok (.iadd, 1) := by decide +kernel
theorem dJ6_bitCount_0f7a4_23 : decode cJ6_bitCount_0f7a4 23 = .ok (.istore_n 0, 1) := by decide +kernel
theorem dJ6_bitCount_0f7a4_24 : decode cJ6_bitCount_0f7a4 24 = .ok (.iload_n 0, 1) := by decide +kernel
theorem dJ6_bitCount_0f7a4_25 : decode cJ6_bitCount_0f7a4 25 = .ok (.iload_n 0, 1) := by decide +kernel
theorem dJ6_bitCount_0f7a4_26 : decode cJ6_bitCount_0f7a4 26 = .ok (.iconst 4, 1) := by decide +kernel
theorem dJ6_bitCount_0f7a4_27 : decode cJ6_bitCount_0f7a4 27 = .ok (.iushr, 1) := by decide +kernel
theorem dJ6_bitCount_0f7a4_28 : decode cJ6_bitCount_0f7a4 28 = .ok (.iadd, 1) := by decide +kernel
theorem dJ6_bitCount_0f7a4_29 : decode cJ6_bitCount_0f7a4 29 = .ok (.ldc_w 267, 3) := by decide +kernel
theorem dJ6_bitCount_0f7a4_32 : decode cJ6_bitCount_0f7a4 32 = .ok (.iand, 1) := by decide +kernel
theorem dJ6_bitCount_0f7a4_33 : decode cJ6_bitCount_0f7a4 33 = .ok (.istore_n 0, 1) := by decide +kernel
theorem dJ6_bitCount_0f7a4_34 : decode cJ6_bitCount_0f7a4 34 = .ok (.iload_n 0, 1) := by decide +kernel
theorem dJ6_bitCount_0f7a4_35 : decode cJ6_bitCount_0f7a4 35 = .ok (.iload_n 0, 1) := by decide +kernel
theorem dJ6_bitCount_0f7a4_36 : decode cJ6_bitCount_0f7a4 36 = .ok (.bipush 8, 2) := by decide +kernel
theorem dJ6_bitCount_0f7a4_38 : decode cJ6_bitCount_0f7a4 38 = .ok (.iushr, 1) := by decide +kernel
theorem dJ6_bitCount_0f7a4_39 : decode cJ6_bitCount_0f7a4 39 = .ok (.iadd, 1) := by decide +kernel
theorem dJ6_bitCount_0f7a4_40 : decode cJ6_bitCount_0f7a4 40 = .ok (.istore_n 0, 1) := by decide +kernel
theorem dJ6_bitCount_0f7a4_41 : decode cJ6_bitCount_0f7a4 41 = .ok (.iload_n 0, 1) := by decide +kernel
theorem dJ6_bitCount_0f7a4_42 : decode cJ6_bitCount_0f7a4 42 = .ok (.iload_n 0, 1) := by decide +kernel
theorem dJ6_bitCount_0f7a4_43 : decode cJ6_bitCount_0f7a4 43 = .ok (.bipush 16, 2) := by decide +kernel
theorem dJ6_bitCount_0f7a4_45 : decode cJ6_bitCount_0f7a4 45 = .ok (.iushr, 1) := by decide +kernel
theorem dJ6_bitCount_0f7a4_46 : decode cJ6_bitCount_0f7a4 46 = .ok (.iadd, 1) := by decide +kernel
theorem dJ6_bitCount_0f7a4_47 : decode cJ6_bitCount_0f7a4 47 = .ok (.istore_n 0, 1) := by decide +kernel
theorem dJ6_bitCount_0f7a4_48 : decode cJ6_bitCount_0f7a4 48 = .ok (.iload_n 0, 1) := by decide +kernel
theorem dJ6_bitCount_0f7a4_49 : decode cJ6_bitCount_0f7a4 49 = .ok (.bipush 63, 2) := by decide +kernel
theorem dJ6_bitCount_0f7a4_51 : decode cJ6_bitCount_0f7a4 51 = .ok (.iand, 1) := by decide +kernel
theorem dJ6_bitCount_0f7a4_52 : decode cJ6_bitCount_0f7a4 52 = .ok (.ireturn, 1) := by decide +kernel
theorem dJ9_max_7cf53_0 : decode cJ9_max_7cf53 0 = .ok (.iload_n 0, 1) := by decide +kernel
theorem dJ9_max_7cf53_1 : decode cJ9_max_7cf53 1 = .ok (.iload_n 1, 1) := by decide +kernel
theorem dJ9_max_7cf53_2 : decode cJ9_max_7cf53 2 = .ok (.if_icmp .lt 7, 3) := by decide +kernel
theorem dJ9_max_7cf53_5 : decode cJ9_max_7cf53 5 = .ok (.iload_n 0, 1) := by decide +kernel
theorem dJ9_max_7cf53_6 : decode cJ9_max_7cf53 6 = .ok (.goto 4, 3) := by decide +kernel
theorem dJ9_max_7cf53_9 : decode cJ9_max_7cf53 9 = .ok (.iload_n 1, 1) := by decide +kernel
theorem dJ9_max_7cf53_10 : decode cJ9_max_7cf53 10 = .ok (.ireturn, 1) := by decide +kernel
theorem dJ9_min_7cf53_0 : decode cJ9_min_7cf53 0 = .ok (.iload_n 0, 1) := by decide +kernel
theorem dJ9_min_7cf53_1 : decode cJ9_min_7cf53 1 = .ok (.iload_n 1, 1) := by decide +kernel
theorem dJ9_min_7cf53_2 : decode cJ9_min_7cf53 2 = .ok (.if_icmp .gt 7, 3) := by decide +kernel
theorem dJ9_min_7cf53_5 : decode cJ9_min_7cf53 5 = .ok (.iload_n 0, 1) := by decide +kernel
theorem dJ9_min_7cf53_6 : decode cJ9_min_7cf53 6 = .ok (.goto 4, 3) := by decide +kernel
theorem dJ9_min_7cf53_9 : decode cJ9_min_7cf53 9 = .ok (.iload_n 1, 1) := by decide +kernel
theorem dJ9_min_7cf53_10 : decode cJ9_min_7cf53 10 = .ok (.ireturn, 1) := by decide +kernel
theorem dJ7_fill_53178_0 : decode cJ7_fill_53178 0 = .ok (.iconst 0, 1) := by decide +kernel
theorem dJ7_fill_53178_1 : decode cJ7_fill_53178 1 = .ok (.istore_n 2, 1) := by decide +kernel
theorem dJ7_fill_53178_2 : decode cJ7_fill_53178 2 = .ok (.aload_n 0, 1) := by decide +kernel
theorem dJ7_fill_53178_3 : decode cJ7_fill_53178 3 = .ok (.arraylength, 1) := by decide +kernel
theorem dJ7_fill_53178_4 : decode cJ7_fill_53178 4 = .ok (.istore_n 3, 1) := by decide +kernel
theorem dJ7_fill_53178_5 : decode cJ7_fill_53178 5 = .ok (.iload_n 2, 1) := by decide +kernel
theorem dJ7_fill_53178_6 : decode cJ7_fill_53178 6 = .ok (.iload_n 3, 1) := by decide +kernel
theorem dJ7_fill_53178_7 : decode cJ7_fill_53178 7 = .ok (.if_icmp .ge 13, 3) := by decide +kernel
theorem dJ7_fill_53178_10 : decode cJ7_fill_53178 10 = .ok (.aload_n 0, 1) := by decide +kernel
theorem dJ7_fill_53178_11 : decode cJ7_fill_53178 11 = .ok (.iload_n 2, 1) := by decide +kernel
theorem dJ7_fill_53178_12 : decode cJ7_fill_53178 12 = .ok (.iload_n 1, 1) := by decide +kernel
theorem dJ7_fill_53178_13 : decode cJ7_fill_53178 13 = .ok (.iastore, 1) := by decide +kernel
theorem dJ7_fill_53178_14 : decode cJ7_fill_53178 14 = .ok (.iinc 2 1, 3) := by decide +kernel
theorem dJ7_fill_53178_17 : decode cJ7_fill_53178 17 = .ok (.goto (-12), 3) := by decide +kernel
theorem dJ7_fill_53178_20 : decode cJ7_fill_53178 20 = .ok (.return_, 1) := by decide +kernel
theorem dL_cell_0 : decode cL_cell 0 = .ok (.iload_n 1, 1) := by decide +kernel
theorem dL_cell_1 : decode cL_cell 1 = .ok (.aload_n 0, 1) := by decide +kernel
theorem dL_cell_2 : decode cL_cell 2 = .ok (.arraylength, 1) := by decide +kernel
theorem dL_cell_3 : decode cL_cell 3 = .ok (.if_icmp .ge 9, 3) := by decide +kernel
theorem dL_cell_6 : decode cL_cell 6 = .ok (.aload_n 0, 1) := by decide +kernel
theorem dL_cell_7 : decode cL_cell 7 = .ok (.iload_n 1, 1) := by decide +kernel
theorem dL_cell_8 : decode cL_cell 8 = .ok (.iaload, 1) := by decide +kernel
theorem dL_cell_9 : decode cL_cell 9 = .ok (.goto 11, 3) := by decide +kernel
theorem dL_cell_12 : decode cL_cell 12 = .ok (.ldc 7, 2) := by decide +kernel
theorem dL_cell_14 : decode cL_cell 14 = .ok (.iload_n 1, 1) := by decide +kernel
theorem dL_cell_15 : decode cL_cell 15 = .ok (.imul, 1) := by decide +kernel
theorem dL_cell_16 : decode cL_cell 16 = .ok (.sipush 977, 3) := by decide +kernel
theorem dL_cell_19 : decode cL_cell 19 = .ok (.iadd, 1) := by decide +kernel
theorem dL_cell_20 : decode cL_cell 20 = .ok (.ireturn, 1) := by decide +kernel
theorem dL_low_0 : decode cL_low 0 = .ok (.iload_n 0, 1) := by decide +kernel
theorem dL_low_1 : decode cL_low 1 = .ok (.ldc 8, 2) := by decide +kernel
theorem dL_low_3 : decode cL_low 3 = .ok (.iand, 1) := by decide +kernel
theorem dL_low_4 : decode cL_low 4 = .ok (.iload_n 1, 1) := by decide +kernel
theorem dL_low_5 : decode cL_low 5 = .ok (.irem, 1) := by decide +kernel
theorem dL_low_6 : decode cL_low 6 = .ok (.ireturn, 1) := by decide +kernel
theorem dL_change_0 : decode cL_change 0 = .ok (.aload_n 0, 1) := by decide +kernel
theorem dL_change_1 : decode cL_change 1 = .ok (.iconst 1, 1) := by decide +kernel
theorem dL_change_2 : decode cL_change 2 = .ok (.invokevirtual 9, 3) := by decide +kernel
theorem dL_change_5 : decode cL_change 5 = .ok (.istore 4, 2) := by decide +kernel
theorem dL_change_7 : decode cL_change 7 = .ok (.aload_n 0, 1) := by decide +kernel
theorem dL_change_8 : decode cL_change 8 = .ok (.bipush 15, 2) := by decide +kernel
theorem dL_change_10 : decode cL_change 10 = .ok (.invokevirtual 9, 3) := by decide +kernel
theorem dL_change_13 : decode cL_change 13 = .ok (.istore 5, 2) := by decide +kernel
theorem dL_change_15 : decode cL_change 15 = .ok (.iload_n 2, 1) := by decide +kernel
theorem dL_change_16 : decode cL_change 16 = .ok (.iload 4, 2) := by decide +kernel
theorem dL_change_18 : decode cL_change 18 = .ok (.iconst 1, 1) := by decide +kernel
theorem dL_change_19 : decode cL_change 19 = .ok (.iadd, 1) := by decide +kernel
theorem dL_change_20 : decode cL_change 20 = .ok (.invokestatic 15, 3) := by decide +kernel
theorem dL_change_23 : decode cL_change 23 = .ok (.istore 6, 2) := by decide +kernel
theorem dL_change_25 : decode cL_change 25 = .ok (.iconst 0, 1) := by decide +kernel
theorem dL_change_26 : decode cL_change 26 = .ok (.istore 7, 2) := by decide +kernel
theorem dL_change_28 : decode cL_change 28 = .ok (.iconst 0, 1) := by decide +kernel
theorem dL_change_29 : decode cL_change 29 = .ok (.istore 8, 2) := by decide +kernel
theorem dL_change_31 : decode cL_change 31 = .ok (.iconst 1, 1) := by decide +kernel
theorem dL_change_32 : decode cL_change 32 = .ok (.istore 9, 2) := by decide +kernel
theorem dL_change_34 : decode cL_change 34 = .ok (.iload_n 1, 1) := by decide +kernel
theorem dL_change_35 : decode cL_change 35 = .ok (.tableswitch 544 0 12 #[65, 65, 65, 143, 214, 214, 271, 343, 382, 420, 420, 453, 453], 65) := by decide +kernel
theorem dL_change_100 : decode cL_change 100 = .ok (.aload_n 0, 1) := by decide +kernel
theorem dL_change_101 : decode cL_change 101 = .ok (.iload_n 2, 1) := by decide +kernel
theorem dL_change_102 : decode cL_change 102 = .ok (.bipush 6, 2) := by decide +kernel
theorem dL_change_104 : decode cL_change 104 = .ok (.invokestatic 15, 3) := by decide +kernel
theorem dL_change_107 : decode cL_change 107 = .ok (.iload_n 3, 1) := by decide +kernel
theorem dL_change_108 : decode cL_change 108 = .ok (.bipush 63, 2) := by decide +kernel
theorem dL_change_110 : decode cL_change 110 = .ok (.iand, 1) := by decide +kernel
theorem dL_change_111 : decode cL_change 111 = .ok (.invokevirtual 21, 3) := by decide +kernel
theorem dL_change_114 : decode cL_change 114 = .ok (.istore 8, 2) := by decide +kernel
theorem dL_change_116 : decode cL_change 116 = .ok (.iload 8, 2) := by decide +kernel
theorem dL_change_118 : decode cL_change 118 = .ok (.iload 4, 2) := by decide +kernel
theorem dL_change_120 : decode cL_change 120 = .ok (.bipush 7, 2) := by decide +kernel
theorem dL_change_122 : decode cL_change 122 = .ok (.if_icmp .ne 8, 3) := by decide +kernel
theorem dL_change_125 : decode cL_change 125 = .ok (.bipush (-3), 2) := by decide +kernel
theorem dL_change_127 : decode cL_change 127 = .ok (.goto 5, 3) := by decide +kernel
theorem dL_change_130 : decode cL_change 130 = .ok (.iload 4, 2) := by decide +kernel
theorem dL_change_132 : decode cL_change 132 = .ok (.if_icmp .ne 40, 3) := by decide +kernel
theorem dL_change_135 : decode cL_change 135 = .ok (.iload 4, 2) := by decide +kernel
theorem dL_change_137 : decode cL_change 137 = .ok (.bipush 7, 2) := by decide +kernel
theorem dL_change_139 : decode cL_change 139 = .ok (.if_icmp .eq 29, 3) := by decide +kernel
theorem dL_change_142 : decode cL_change 142 = .ok (.aload_n 0, 1) := by decide +kernel
theorem dL_change_143 : decode cL_change 143 = .ok (.iload 4, 2) := by decide +kernel
theorem dL_change_145 : decode cL_change 145 = .ok (.iconst 2, 1) := by decide +kernel
theorem dL_change_146 : decode cL_change 146 = .ok (.invokevirtual 24, 3) := by decide +kernel
theorem dL_change_149 : decode cL_change 149 = .ok (.iload_n 2, 1) := by decide +kernel
theorem dL_change_150 : decode cL_change 150 = .ok (.bipush 6, 2) := by decide +kernel
theorem dL_change_152 : decode cL_change 152 = .ok (.invokestatic 15, 3) := by decide +kernel
theorem dL_change_155 : decode cL_change 155 = .ok (.if_icmp .ne 17, 3) := by decide +kernel
theorem dL_change_158 : decode cL_change 158 = .ok (.aload_n 0, 1) := by decide +kernel
theorem dL_change_159 : decode cL_change 159 = .ok (.iload 4, 2) := by decide +kernel
theorem dL_change_161 : decode cL_change 161 = .ok (.iconst 3, 1) := by decide +kernel
theorem dL_change_162 : decode cL_change 162 = .ok (.invokevirtual 24, 3) := by decide +kernel
theorem dL_change_165 : decode cL_change 165 = .ok (.ifCond .ne 7, 3) := by decide +kernel
theorem dL_change_168 : decode cL_change 168 = .ok (.iconst 1, 1) := by decide +kernel
theorem dL_change_169 : decode cL_change 169 = .ok (.goto 4, 3) := by decide +kernel
theorem dL_change_172 : decode cL_change 172 = .ok (.iconst 0, 1) := by decide +kernel
theorem dL_change_173 : decode cL_change 173 = .ok (.istore 9, 2) := by decide +kernel
theorem dL_change_175 : decode cL_change 175 = .ok (.goto 566, 3) := by decide +kernel
theorem dL_change_178 : decode cL_change 178 = .ok (.aload_n 0, 1) := by decide +kernel
theorem dL_change_179 : decode cL_change 179 = .ok (.iload 6, 2) := by decide +kernel
theorem dL_change_181 : decode cL_change 181 = .ok (.bipush 6, 2) := by decide +kernel
theorem dL_change_183 : decode cL_change 183 = .ok (.invokevirtual 24, 3) := by decide +kernel
theorem dL_change_186 : decode cL_change 186 = .ok (.istore 7, 2) := by decide +kernel
theorem dL_change_188 : decode cL_change 188 = .ok (.iload_n 3, 1) := by decide +kernel
theorem dL_change_189 : decode cL_change 189 = .ok (.bipush 7, 2) := by decide +kernel
theorem dL_change_191 : decode cL_change 191 = .ok (.iand, 1) := by decide +kernel
theorem dL_change_192 : decode cL_change 192 = .ok (.ifCond .ne 12, 3) := by decide +kernel
theorem dL_change_195 : decode cL_change 195 = .ok (.aload_n 0, 1) := by decide +kernel
theorem dL_change_196 : decode cL_change 196 = .ok (.iload 6, 2) := by decide +kernel
theorem dL_change_198 : decode cL_change 198 = .ok (.invokevirtual 27, 3) := by decide +kernel
theorem dL_change_201 : decode cL_change 201 = .ok (.goto 5, 3) := by decide +kernel
theorem dL_change_204 : decode cL_change 204 = .ok (.iload 7, 2) := by decide +kernel
theorem dL_change_206 : decode cL_change 206 = .ok (.istore 8, 2) := by decide +kernel
theorem dL_change_208 : decode cL_change 208 = .ok (.iload 8, 2) := by decide +kernel
theorem dL_change_210 : decode cL_change 210 = .ok (.iload 7, 2) := by decide +kernel
theorem dL_change_212 : decode cL_change 212 = .ok (.if_icmp .ne 35, 3) := by decide +kernel
theorem dL_change_215 : decode cL_change 215 = .ok (.aload_n 0, 1) := by decide +kernel
theorem dL_change_216 : decode cL_change 216 = .ok (.iconst 1, 1) := by decide +kernel
theorem dL_change_217 : decode cL_change 217 = .ok (.invokevirtual 9, 3) := by decide +kernel
theorem dL_change_220 : decode cL_change 220 = .ok (.iload 4, 2) := by decide +kernel
theorem dL_change_222 : decode cL_change 222 = .ok (.iload_n 3, 1) := by decide +kernel
theorem dL_change_223 : decode cL_change 223 = .ok (.bipush 7, 2) := by decide +kernel
theorem dL_change_225 : decode cL_change 225 = .ok (.iand, 1) := by decide +kernel
theorem dL_change_226 : decode cL_change 226 = .ok (.ifCond .ne 12, 3) := by decide +kernel
theorem dL_change_229 : decode cL_change 229 = .ok (.iload 7, 2) := by decide +kernel
theorem dL_change_231 : decode cL_change 231 = .ok (.ifCond .lt 7, 3) := by decide +kernel
theorem dL_change_234 : decode cL_change 234 = .ok (.iconst 1, 1) := by decide +kernel
theorem dL_change_235 : decode cL_change 235 = .ok (.goto 4, 3) := by decide +kernel
theorem dL_change_238 : decode cL_change 238 = .ok (.iconst 0, 1) := by decide +kernel
theorem dL_change_239 : decode cL_change 239 = .ok (.isub, 1) := by decide +kernel
theorem dL_change_240 : decode cL_change 240 = .ok (.if_icmp .ne 7, 3) := by decide +kernel
theorem dL_change_243 : decode cL_change 243 = .ok (.iconst 1, 1) := by decide +kernel
theorem dL_change_244 : decode cL_change 244 = .ok (.goto 4, 3) := by decide +kernel
theorem dL_change_247 : decode cL_change 247 = .ok (.iconst 0, 1) := by decide +kernel
theorem dL_change_248 : decode cL_change 248 = .ok (.ireturn, 1) := by decide +kernel
theorem dL_change_249 : decode cL_change 249 = .ok (.aload_n 0, 1) := by decide +kernel
theorem dL_change_250 : decode cL_change 250 = .ok (.iload 6, 2) := by decide +kernel
theorem dL_change_252 : decode cL_change 252 = .ok (.iconst 1, 1) := by decide +kernel
theorem dL_change_253 : decode cL_change 253 = .ok (.invokevirtual 24, 3) := by decide +kernel
theorem dL_change_256 : decode cL_change 256 = .ok (.istore 7, 2) := by decide +kernel
theorem dL_change_258 : decode cL_change 258 = .ok (.aload_n 0, 1) := by decide +kernel
theorem dL_change_259 : decode cL_change 259 = .ok (.iload 6, 2) := by decide +kernel
theorem dL_change_261 : decode cL_change 261 = .ok (.iload_n 3, 1) := by decide +kernel
theorem dL_change_262 : decode cL_change 262 = .ok (.bipush 63, 2) := by decide +kernel
theorem dL_change_264 : decode cL_change 264 = .ok (.iand, 1) := by decide +kernel
theorem dL_change_265 : decode cL_change 265 = .ok (.invokevirtual 30, 3) := by decide +kernel
theorem dL_change_268 : decode cL_change 268 = .ok (.istore 8, 2) := by decide +kernel
theorem dL_change_270 : decode cL_change 270 = .ok (.iload 8, 2) := by decide +kernel
theorem dL_change_272 : decode cL_change 272 = .ok (.iload 7, 2) := by decide +kernel
theorem dL_change_274 : decode cL_change 274 = .ok (.if_icmp .ne 26, 3) := by decide +kernel
theorem dL_change_277 : decode cL_change 277 = .ok (.iload 8, 2) := by decide +kernel
theorem dL_change_279 : decode cL_change 279 = .ok (.ifCond .lt 17, 3) := by decide +kernel
theorem dL_change_282 : decode cL_change 282 = .ok (.aload_n 0, 1) := by decide +kernel
theorem dL_change_283 : decode cL_change 283 = .ok (.iload 6, 2) := by decide +kernel
theorem dL_change_285 : decode cL_change 285 = .ok (.iconst 1, 1) := by decide +kernel
theorem dL_change_286 : decode cL_change 286 = .ok (.invokevirtual 24, 3) := by decide +kernel
theorem dL_change_289 : decode cL_change 289 = .ok (.iload_n 3, 1) := by decide +kernel
theorem dL_change_290 : decode cL_change 290 = .ok (.bipush 63, 2) := by decide +kernel
theorem dL_change_292 : decode cL_change 292 = .ok (.iand, 1) := by decide +kernel
theorem dL_change_293 : decode cL_change 293 = .ok (.if_icmp .ne 7, 3) := by decide +kernel
theorem dL_change_296 : decode cL_change 296 = .ok (.iconst 1, 1) := by decide +kernel
theorem dL_change_297 : decode cL_change 297 = .ok (.goto 4, 3) := by decide +kernel
theorem dL_change_300 : decode cL_change 300 = .ok (.iconst 0, 1) := by decide +kernel
theorem dL_change_301 : decode cL_change 301 = .ok (.istore 9, 2) := by decide +kernel
theorem dL_change_303 : decode cL_change 303 = .ok (.goto 438, 3) := by decide +kernel
theorem dL_change_306 : decode cL_change 306 = .ok (.aload_n 0, 1) := by decide +kernel
theorem dL_change_307 : decode cL_change 307 = .ok (.iload_n 2, 1) := by decide +kernel
theorem dL_change_308 : decode cL_change 308 = .ok (.bipush 6, 2) := by decide +kernel
theorem dL_change_310 : decode cL_change 310 = .ok (.invokestatic 15, 3) := by decide +kernel
theorem dL_change_313 : decode cL_change 313 = .ok (.iconst 0, 1) := by decide +kernel
theorem dL_change_314 : decode cL_change 314 = .ok (.invokevirtual 33, 3) := by decide +kernel
theorem dL_change_317 : decode cL_change 317 = .ok (.istore 7, 2) := by decide +kernel
theorem dL_change_319 : decode cL_change 319 = .ok (.aload_n 0, 1) := by decide +kernel
theorem dL_change_320 : decode cL_change 320 = .ok (.iload_n 2, 1) := by decide +kernel
theorem dL_change_321 : decode cL_change 321 = .ok (.bipush 6, 2) := by decide +kernel
theorem dL_change_323 : decode cL_change 323 = .ok (.invokestatic 15, 3) := by decide +kernel
theorem dL_change_326 : decode cL_change 326 = .ok (.iconst 1, 1) := by decide +kernel
theorem dL_change_327 : decode cL_change 327 = .ok (.iload_n 3, 1) := by decide +kernel
theorem dL_change_328 : decode cL_change 328 = .ok (.bipush 6, 2) := by decide +kernel
theorem dL_change_330 : decode cL_change 330 = .ok (.invokestatic 15, 3) := by decide +kernel
theorem dL_change_333 : decode cL_change 333 = .ok (.iadd, 1) := by decide +kernel
theorem dL_change_334 : decode cL_change 334 = .ok (.invokevirtual 36, 3) := by decide +kernel
theorem dL_change_337 : decode cL_change 337 = .ok (.istore 8, 2) := by decide +kernel
theorem dL_change_339 : decode cL_change 339 = .ok (.iload 8, 2) := by decide +kernel
theorem dL_change_341 : decode cL_change 341 = .ok (.iload 7, 2) := by decide +kernel
theorem dL_change_343 : decode cL_change 343 = .ok (.if_icmp .ne 29, 3) := by decide +kernel
theorem dL_change_346 : decode cL_change 346 = .ok (.aload_n 0, 1) := by decide +kernel
theorem dL_change_347 : decode cL_change 347 = .ok (.iload_n 2, 1) := by decide +kernel
theorem dL_change_348 : decode cL_change 348 = .ok (.bipush 6, 2) := by decide +kernel
theorem dL_change_350 : decode cL_change 350 = .ok (.invokestatic 15, 3) := by decide +kernel
theorem dL_change_353 : decode cL_change 353 = .ok (.iconst 0, 1) := by decide +kernel
theorem dL_change_354 : decode cL_change 354 = .ok (.invokevirtual 33, 3) := by decide +kernel
theorem dL_change_357 : decode cL_change 357 = .ok (.iconst 1, 1) := by decide +kernel
theorem dL_change_358 : decode cL_change 358 = .ok (.iload_n 3, 1) := by decide +kernel
theorem dL_change_359 : decode cL_change 359 = .ok (.bipush 6, 2) := by decide +kernel
theorem dL_change_361 : decode cL_change 361 = .ok (.invokestatic 15, 3) := by decide +kernel
theorem dL_change_364 : decode cL_change 364 = .ok (.iadd, 1) := by decide +kernel
theorem dL_change_365 : decode cL_change 365 = .ok (.if_icmp .ne 7, 3) := by decide +kernel
theorem dL_change_368 : decode cL_change 368 = .ok (.iconst 1, 1) := by decide +kernel
theorem dL_change_369 : decode cL_change 369 = .ok (.goto 4, 3) := by decide +kernel
theorem dL_change_372 : decode cL_change 372 = .ok (.iconst 0, 1) := by decide +kernel
theorem dL_change_373 : decode cL_change 373 = .ok (.istore 9, 2) := by decide +kernel
theorem dL_change_375 : decode cL_change 375 = .ok (.goto 366, 3) := by decide +kernel
theorem dL_change_378 : decode cL_change 378 = .ok (.aload_n 0, 1) := by decide +kernel
theorem dL_change_379 : decode cL_change 379 = .ok (.bipush 11, 2) := by decide +kernel
theorem dL_change_381 : decode cL_change 381 = .ok (.invokevirtual 9, 3) := by decide +kernel
theorem dL_change_384 : decode cL_change 384 = .ok (.istore 7, 2) := by decide +kernel
theorem dL_change_386 : decode cL_change 386 = .ok (.aload_n 0, 1) := by decide +kernel
theorem dL_change_387 : decode cL_change 387 = .ok (.iconst 2, 1) := by decide +kernel
theorem dL_change_388 : decode cL_change 388 = .ok (.iload_n 3, 1) := by decide +kernel
theorem dL_change_389 : decode cL_change 389 = .ok (.bipush 6, 2) := by decide +kernel
theorem dL_change_391 : decode cL_change 391 = .ok (.invokestatic 15, 3) := by decide +kernel
theorem dL_change_394 : decode cL_change 394 = .ok (.iadd, 1) := by decide +kernel
theorem dL_change_395 : decode cL_change 395 = .ok (.invokevirtual 39, 3) := by decide +kernel
theorem dL_change_398 : decode cL_change 398 = .ok (.istore 8, 2) := by decide +kernel
