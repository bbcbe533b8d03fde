theorem dX0_init_0 : decode cX0_init 0 = .ok (.aload_n 0, 1) := by decide +kernel
theorem dX0_init_1 : decode cX0_init 1 = .ok (.invokespecial 3, 3) := by decide +kernel
theorem dX0_init_4 : decode cX0_init 4 = .ok (.aload_n 0, 1) := by decide +kernel
theorem dX0_init_5 : decode cX0_init 5 = .ok (.bipush 7, 2) := by decide +kernel
theorem dX0_init_7 : decode cX0_init 7 = .ok (.newarray .int, 2) := by decide +kernel
theorem dX0_init_9 : decode cX0_init 9 = .ok (.putfield 9, 3) := by decide +kernel
theorem dX0_init_12 : decode cX0_init 12 = .ok (.aload_n 0, 1) := by decide +kernel
theorem dX0_init_13 : decode cX0_init 13 = .ok (.sipush 128, 3) := by decide +kernel
theorem dX0_init_16 : decode cX0_init 16 = .ok (.newarray .int, 2) := by decide +kernel
theorem dX0_init_18 : decode cX0_init 18 = .ok (.putfield 15, 3) := by decide +kernel
theorem dX0_init_21 : decode cX0_init 21 = .ok (.aload_n 0, 1) := by decide +kernel
theorem dX0_init_22 : decode cX0_init 22 = .ok (.sipush 128, 3) := by decide +kernel
theorem dX0_init_25 : decode cX0_init 25 = .ok (.newarray .boolean, 2) := by decide +kernel
theorem dX0_init_27 : decode cX0_init 27 = .ok (.putfield 18, 3) := by decide +kernel
theorem dX0_init_30 : decode cX0_init 30 = .ok (.aload_n 0, 1) := by decide +kernel
theorem dX0_init_31 : decode cX0_init 31 = .ok (.sipush 128, 3) := by decide +kernel
theorem dX0_init_34 : decode cX0_init 34 = .ok (.newarray .boolean, 2) := by decide +kernel
theorem dX0_init_36 : decode cX0_init 36 = .ok (.putfield 22, 3) := by decide +kernel
theorem dX0_init_39 : decode cX0_init 39 = .ok (.return_, 1) := by decide +kernel
theorem dX0_mostTraders_0 : decode cX0_mostTraders 0 = .ok (.aload_n 0, 1) := by decide +kernel
theorem dX0_mostTraders_1 : decode cX0_mostTraders 1 = .ok (.aload_n 1, 1) := by decide +kernel
theorem dX0_mostTraders_2 : decode cX0_mostTraders 2 = .ok (.invokevirtual 25, 3) := by decide +kernel
theorem dX0_mostTraders_5 : decode cX0_mostTraders 5 = .ok (.aload_n 0, 1) := by decide +kernel
theorem dX0_mostTraders_6 : decode cX0_mostTraders 6 = .ok (.invokevirtual 29, 3) := by decide +kernel
theorem dX0_mostTraders_9 : decode cX0_mostTraders 9 = .ok (.aload_n 0, 1) := by decide +kernel
theorem dX0_mostTraders_10 : decode cX0_mostTraders 10 = .ok (.iload_n 2, 1) := by decide +kernel
theorem dX0_mostTraders_11 : decode cX0_mostTraders 11 = .ok (.invokevirtual 32, 3) := by decide +kernel
theorem dX0_mostTraders_14 : decode cX0_mostTraders 14 = .ok (.aload_n 0, 1) := by decide +kernel
theorem dX0_mostTraders_15 : decode cX0_mostTraders 15 = .ok (.invokevirtual 36, 3) := by decide +kernel
theorem dX0_mostTraders_18 : decode cX0_mostTraders 18 = .ok (.ireturn, 1) := by decide +kernel
theorem dX0_readTakers_0 : decode cX0_readTakers 0 = .ok (.aload_n 0, 1) := by decide +kernel
theorem dX0_readTakers_1 : decode cX0_readTakers 1 = .ok (.iconst 0, 1) := by decide +kernel
theorem dX0_readTakers_2 : decode cX0_readTakers 2 = .ok (.aload_n 1, 1) := by decide +kernel
theorem dX0_readTakers_3 : decode cX0_readTakers 3 = .ok (.getfield 40, 3) := by decide +kernel
theorem dX0_readTakers_6 : decode cX0_readTakers 6 = .ok (.bipush 7, 2) := by decide +kernel
theorem dX0_readTakers_8 : decode cX0_readTakers 8 = .ok (.invokestatic 46, 3) := by decide +kernel
theorem dX0_readTakers_11 : decode cX0_readTakers 11 = .ok (.invokestatic 52, 3) := by decide +kernel
theorem dX0_readTakers_14 : decode cX0_readTakers 14 = .ok (.putfield 55, 3) := by decide +kernel
theorem dX0_readTakers_17 : decode cX0_readTakers 17 = .ok (.aload_n 0, 1) := by decide +kernel
theorem dX0_readTakers_18 : decode cX0_readTakers 18 = .ok (.iconst 1, 1) := by decide +kernel
theorem dX0_readTakers_19 : decode cX0_readTakers 19 = .ok (.aload_n 0, 1) := by decide +kernel
theorem dX0_readTakers_20 : decode cX0_readTakers 20 = .ok (.getfield 55, 3) := by decide +kernel
theorem dX0_readTakers_23 : decode cX0_readTakers 23 = .ok (.ishl, 1) := by decide +kernel
theorem dX0_readTakers_24 : decode cX0_readTakers 24 = .ok (.putfield 56, 3) := by decide +kernel
theorem dX0_readTakers_27 : decode cX0_readTakers 27 = .ok (.aload_n 0, 1) := by decide +kernel
theorem dX0_readTakers_28 : decode cX0_readTakers 28 = .ok (.getfield 9, 3) := by decide +kernel
theorem dX0_readTakers_31 : decode cX0_readTakers 31 = .ok (.iconst 0, 1) := by decide +kernel
theorem dX0_readTakers_32 : decode cX0_readTakers 32 = .ok (.invokestatic 59, 3) := by decide +kernel
theorem dX0_readTakers_35 : decode cX0_readTakers 35 = .ok (.iconst 0, 1) := by decide +kernel
theorem dX0_readTakers_36 : decode cX0_readTakers 36 = .ok (.istore_n 2, 1) := by decide +kernel
theorem dX0_readTakers_37 : decode cX0_readTakers 37 = .ok (.iload_n 2, 1) := by decide +kernel
theorem dX0_readTakers_38 : decode cX0_readTakers 38 = .ok (.aload_n 0, 1) := by decide +kernel
theorem dX0_readTakers_39 : decode cX0_readTakers 39 = .ok (.getfield 55, 3) := by decide +kernel
theorem dX0_readTakers_42 : decode cX0_readTakers 42 = .ok (.if_icmp .ge 60, 3) := by decide +kernel
theorem dX0_readTakers_45 : decode cX0_readTakers 45 = .ok (.aload_n 1, 1) := by decide +kernel
theorem dX0_readTakers_46 : decode cX0_readTakers 46 = .ok (.iload_n 2, 1) := by decide +kernel
theorem dX0_readTakers_47 : decode cX0_readTakers 47 = .ok (.invokevirtual 65, 3) := by decide +kernel
theorem dX0_readTakers_50 : decode cX0_readTakers 50 = .ok (.istore_n 3, 1) := by decide +kernel
theorem dX0_readTakers_51 : decode cX0_readTakers 51 = .ok (.iconst 0, 1) := by decide +kernel
theorem dX0_readTakers_52 : decode cX0_readTakers 52 = .ok (.istore 4, 2) := by decide +kernel
theorem dX0_readTakers_54 : decode cX0_readTakers 54 = .ok (.iload 4, 2) := by decide +kernel
theorem dX0_readTakers_56 : decode cX0_readTakers 56 = .ok (.aload_n 0, 1) := by decide +kernel
theorem dX0_readTakers_57 : decode cX0_readTakers 57 = .ok (.getfield 55, 3) := by decide +kernel
theorem dX0_readTakers_60 : decode cX0_readTakers 60 = .ok (.if_icmp .ge 36, 3) := by decide +kernel
theorem dX0_readTakers_63 : decode cX0_readTakers 63 = .ok (.iload_n 3, 1) := by decide +kernel
theorem dX0_readTakers_64 : decode cX0_readTakers 64 = .ok (.iload 4, 2) := by decide +kernel
theorem dX0_readTakers_66 : decode cX0_readTakers 66 = .ok (.invokestatic 69, 3) := by decide +kernel
theorem dX0_readTakers_69 : decode cX0_readTakers 69 = .ok (.ifCond .eq 21, 3) := by decide +kernel
theorem dX0_readTakers_72 : decode cX0_readTakers 72 = .ok (.aload_n 0, 1) := by decide +kernel
theorem dX0_readTakers_73 : decode cX0_readTakers 73 = .ok (.getfield 9, 3) := by decide +kernel
theorem dX0_readTakers_76 : decode cX0_readTakers 76 = .ok (.iload 4, 2) := by decide +kernel
theorem dX0_readTakers_78 : decode cX0_readTakers 78 = .ok (.aload_n 0, 1) := by decide +kernel
theorem dX0_readTakers_79 : decode cX0_readTakers 79 = .ok (.getfield 9, 3) := by decide +kernel
theorem dX0_readTakers_82 : decode cX0_readTakers 82 = .ok (.iload 4, 2) := by decide +kernel
theorem dX0_readTakers_84 : decode cX0_readTakers 84 = .ok (.iaload, 1) := by decide +kernel
theorem dX0_readTakers_85 : decode cX0_readTakers 85 = .ok (.iload_n 2, 1) := by decide +kernel
theorem dX0_readTakers_86 : decode cX0_readTakers 86 = .ok (.invokestatic 73, 3) := by decide +kernel
theorem dX0_readTakers_89 : decode cX0_readTakers 89 = .ok (.iastore, 1) := by decide +kernel
theorem dX0_readTakers_90 : decode cX0_readTakers 90 = .ok (.iinc 4 1, 3) := by decide +kernel
theorem dX0_readTakers_93 : decode cX0_readTakers 93 = .ok (.goto (-39), 3) := by decide +kernel
theorem dX0_readTakers_96 : decode cX0_readTakers 96 = .ok (.iinc 2 1, 3) := by decide +kernel
theorem dX0_readTakers_99 : decode cX0_readTakers 99 = .ok (.goto (-62), 3) := by decide +kernel
theorem dX0_readTakers_102 : decode cX0_readTakers 102 = .ok (.return_, 1) := by decide +kernel
theorem dX0_findChains_0 : decode cX0_findChains 0 = .ok (.aload_n 0, 1) := by decide +kernel
theorem dX0_findChains_1 : decode cX0_findChains 1 = .ok (.getfield 15, 3) := by decide +kernel
theorem dX0_findChains_4 : decode cX0_findChains 4 = .ok (.iconst 0, 1) := by decide +kernel
theorem dX0_findChains_5 : decode cX0_findChains 5 = .ok (.invokestatic 59, 3) := by decide +kernel
theorem dX0_findChains_8 : decode cX0_findChains 8 = .ok (.iconst 0, 1) := by decide +kernel
theorem dX0_findChains_9 : decode cX0_findChains 9 = .ok (.istore_n 1, 1) := by decide +kernel
theorem dX0_findChains_10 : decode cX0_findChains 10 = .ok (.iload_n 1, 1) := by decide +kernel
theorem dX0_findChains_11 : decode cX0_findChains 11 = .ok (.aload_n 0, 1) := by decide +kernel
theorem dX0_findChains_12 : decode cX0_findChains 12 = .ok (.getfield 55, 3) := by decide +kernel
theorem dX0_findChains_15 : decode cX0_findChains 15 = .ok (.if_icmp .ge 20, 3) := by decide +kernel
theorem dX0_findChains_18 : decode cX0_findChains 18 = .ok (.aload_n 0, 1) := by decide +kernel
theorem dX0_findChains_19 : decode cX0_findChains 19 = .ok (.getfield 15, 3) := by decide +kernel
theorem dX0_findChains_22 : decode cX0_findChains 22 = .ok (.iconst 1, 1) := by decide +kernel
theorem dX0_findChains_23 : decode cX0_findChains 23 = .ok (.iload_n 1, 1) := by decide +kernel
theorem dX0_findChains_24 : decode cX0_findChains 24 = .ok (.ishl, 1) := by decide +kernel
theorem dX0_findChains_25 : decode cX0_findChains 25 = .ok (.iconst 1, 1) := by decide +kernel
theorem dX0_findChains_26 : decode cX0_findChains 26 = .ok (.iload_n 1, 1) := by decide +kernel
theorem dX0_findChains_27 : decode cX0_findChains 27 = .ok (.ishl, 1) := by decide +kernel
theorem dX0_findChains_28 : decode cX0_findChains 28 = .ok (.iastore, 1) := by decide +kernel
theorem dX0_findChains_29 : decode cX0_findChains 29 = .ok (.iinc 1 1, 3) := by decide +kernel
theorem dX0_findChains_32 : decode cX0_findChains 32 = .ok (.goto (-22), 3) := by decide +kernel
theorem dX0_findChains_35 : decode cX0_findChains 35 = .ok (.iconst 1, 1) := by decide +kernel
theorem dX0_findChains_36 : decode cX0_findChains 36 = .ok (.istore_n 1, 1) := by decide +kernel
theorem dX0_findChains_37 : decode cX0_findChains 37 = .ok (.iload_n 1, 1) := by decide +kernel
theorem dX0_findChains_38 : decode cX0_findChains 38 = .ok (.aload_n 0, 1) := by decide +kernel
theorem dX0_findChains_39 : decode cX0_findChains 39 = .ok (.getfield 56, 3) := by decide +kernel
theorem dX0_findChains_42 : decode cX0_findChains 42 = .ok (.if_icmp .ge 76, 3) := by decide +kernel
theorem dX0_findChains_45 : decode cX0_findChains 45 = .ok (.iload_n 1, 1) := by decide +kernel
theorem dX0_findChains_46 : decode cX0_findChains 46 = .ok (.invokestatic 76, 3) := by decide +kernel
theorem dX0_findChains_49 : decode cX0_findChains 49 = .ok (.iconst 1, 1) := by decide +kernel
theorem dX0_findChains_50 : decode cX0_findChains 50 = .ok (.iadd, 1) := by decide +kernel
theorem dX0_findChains_51 : decode cX0_findChains 51 = .ok (.istore_n 2, 1) := by decide +kernel
theorem dX0_findChains_52 : decode cX0_findChains 52 = .ok (.iload_n 2, 1) := by decide +kernel
theorem dX0_findChains_53 : decode cX0_findChains 53 = .ok (.aload_n 0, 1) := by decide +kernel
theorem dX0_findChains_54 : decode cX0_findChains 54 = .ok (.getfield 55, 3) := by decide +kernel
theorem dX0_findChains_57 : decode cX0_findChains 57 = .ok (.if_icmp .ge 55, 3) := by decide +kernel
theorem dX0_findChains_60 : decode cX0_findChains 60 = .ok (.iload_n 1, 1) := by decide +kernel
theorem dX0_findChains_61 : decode cX0_findChains 61 = .ok (.iload_n 2, 1) := by decide +kernel
theorem dX0_findChains_62 : decode cX0_findChains 62 = .ok (.invokestatic 69, 3) := by decide +kernel
theorem dX0_findChains_65 : decode cX0_findChains 65 = .ok (.ifCond .ne 41, 3) := by decide +kernel
theorem dX0_findChains_68 : decode cX0_findChains 68 = .ok (.aload_n 0, 1) := by decide +kernel
theorem dX0_findChains_69 : decode cX0_findChains 69 = .ok (.getfield 15, 3) := by decide +kernel
theorem dX0_findChains_72 : decode cX0_findChains 72 = .ok (.iload_n 1, 1) := by decide +kernel
theorem dX0_findChains_73 : decode cX0_findChains 73 = .ok (.iaload, 1) := by decide +kernel
theorem dX0_findChains_74 : decode cX0_findChains 74 = .ok (.aload_n 0, 1) := by decide +kernel
theorem dX0_findChains_75 : decode cX0_findChains 75 = .ok (.getfield 9, 3) := by decide +kernel
theorem dX0_findChains_78 : decode cX0_findChains 78 = .ok (.iload_n 2, 1) := by decide +kernel
theorem dX0_findChains_79 : decode cX0_findChains 79 = .ok (.iaload, 1) := by decide +kernel
theorem dX0_findChains_80 : decode cX0_findChains 80 = .ok (.iand, 1) := by decide +kernel
theorem dX0_findChains_81 : decode cX0_findChains 81 = .ok (.ifCond .eq 25, 3) := by decide +kernel
theorem dX0_findChains_84 : decode cX0_findChains 84 = .ok (.iload_n 1, 1) := by decide +kernel
theorem dX0_findChains_85 : decode cX0_findChains 85 = .ok (.iload_n 2, 1) := by decide +kernel
theorem dX0_findChains_86 : decode cX0_findChains 86 = .ok (.invokestatic 73, 3) := by decide +kernel
theorem dX0_findChains_89 : decode cX0_findChains 89 = .ok (.istore_n 3, 1) := by decide +kernel
theorem dX0_findChains_90 : decode cX0_findChains 90 = .ok (.aload_n 0, 1) := by decide +kernel
theorem dX0_findChains_91 : decode cX0_findChains 91 = .ok (.getfield 15, 3) := by decide +kernel
theorem dX0_findChains_94 : decode cX0_findChains 94 = .ok (.iload_n 3, 1) := by decide +kernel
theorem dX0_findChains_95 : decode cX0_findChains 95 = .ok (.aload_n 0, 1) := by decide +kernel
theorem dX0_findChains_96 : decode cX0_findChains 96 = .ok (.getfield 15, 3) := by decide +kernel
theorem dX0_findChains_99 : decode cX0_findChains 99 = .ok (.iload_n 3, 1) := by decide +kernel
theorem dX0_findChains_100 : decode cX0_findChains 100 = .ok (.iaload, 1) := by decide +kernel
theorem dX0_findChains_101 : decode cX0_findChains 101 = .ok (.iload_n 2, 1) := by decide +kernel
theorem dX0_findChains_102 : decode cX0_findChains 102 = .ok (.invokestatic 73, 3) := by decide +kernel
theorem dX0_findChains_105 : decode cX0_findChains 105 = .ok (.iastore, 1) := by decide +kernel
theorem dX0_findChains_106 : decode cX0_findChains 106 = .ok (.iinc 2 1, 3) := by decide +kernel
theorem dX0_findChains_109 : decode cX0_findChains 109 = .ok (.goto (-57), 3) := by decide +kernel
theorem dX0_findChains_112 : decode cX0_findChains 112 = .ok (.iinc 1 1, 3) := by decide +kernel
theorem dX0_findChains_115 : decode cX0_findChains 115 = .ok (.goto (-78), 3) := by decide +kernel
theorem dX0_findChains_118 : decode cX0_findChains 118 = .ok (.return_, 1) := by decide +kernel
theorem dX0_findCircles_0 : decode cX0_findCircles 0 = .ok (.iconst 1, 1) := by decide +kernel
theorem dX0_findCircles_1 : decode cX0_findCircles 1 = .ok (.istore_n 2, 1) := by decide +kernel
theorem dX0_findCircles_2 : decode cX0_findCircles 2 = .ok (.iload_n 2, 1) := by decide +kernel
theorem dX0_findCircles_3 : decode cX0_findCircles 3 = .ok (.aload_n 0, 1) := by decide +kernel
theorem dX0_findCircles_4 : decode cX0_findCircles 4 = .ok (.getfield 56, 3) := by decide +kernel
theorem dX0_findCircles_7 : decode cX0_findCircles 7 = .ok (.if_icmp .ge 54, 3) := by decide +kernel
theorem dX0_findCircles_10 : decode cX0_findCircles 10 = .ok (.iload_n 2, 1) := by decide +kernel
theorem dX0_findCircles_11 : decode cX0_findCircles 11 = .ok (.invokestatic 79, 3) := by decide +kernel
theorem dX0_findCircles_14 : decode cX0_findCircles 14 = .ok (.istore_n 3, 1) := by decide +kernel
theorem dX0_findCircles_15 : decode cX0_findCircles 15 = .ok (.aload_n 0, 1) := by decide +kernel
theorem dX0_findCircles_16 : decode cX0_findCircles 16 = .ok (.getfield 18, 3) := by decide +kernel
theorem dX0_findCircles_19 : decode cX0_findCircles 19 = .ok (.iload_n 2, 1) := by decide +kernel
theorem dX0_findCircles_20 : decode cX0_findCircles 20 = .ok (.iload_n 3, 1) := by decide +kernel
theorem dX0_findCircles_21 : decode cX0_findCircles 21 = .ok (.iconst 2, 1) := by decide +kernel
theorem dX0_findCircles_22 : decode cX0_findCircles 22 = .ok (.if_icmp .lt 31, 3) := by decide +kernel
theorem dX0_findCircles_25 : decode cX0_findCircles 25 = .ok (.iload_n 3, 1) := by decide +kernel
theorem dX0_findCircles_26 : decode cX0_findCircles 26 = .ok (.iload_n 1, 1) := by decide +kernel
theorem dX0_findCircles_27 : decode cX0_findCircles 27 = .ok (.if_icmp .gt 26, 3) := by decide +kernel
theorem dX0_findCircles_30 : decode cX0_findCircles 30 = .ok (.aload_n 0, 1) := by decide +kernel
theorem dX0_findCircles_31 : decode cX0_findCircles 31 = .ok (.getfield 15, 3) := by decide +kernel
theorem dX0_findCircles_34 : decode cX0_findCircles 34 = .ok (.iload_n 2, 1) := by decide +kernel
theorem dX0_findCircles_35 : decode cX0_findCircles 35 = .ok (.iaload, 1) := by decide +kernel
theorem dX0_findCircles_36 : decode cX0_findCircles 36 = .ok (.aload_n 0, 1) := by decide +kernel
theorem dX0_findCircles_37 : decode cX0_findCircles 37 = .ok (.getfield 9, 3) := by decide +kernel
theorem dX0_findCircles_40 : decode cX0_findCircles 40 = .ok (.iload_n 2, 1) := by decide +kernel
theorem dX0_findCircles_41 : decode cX0_findCircles 41 = .ok (.invokestatic 76, 3) := by decide +kernel
theorem dX0_findCircles_44 : decode cX0_findCircles 44 = .ok (.iaload, 1) := by decide +kernel
theorem dX0_findCircles_45 : decode cX0_findCircles 45 = .ok (.iand, 1) := by decide +kernel
theorem dX0_findCircles_46 : decode cX0_findCircles 46 = .ok (.ifCond .eq 7, 3) := by decide +kernel
theorem dX0_findCircles_49 : decode cX0_findCircles 49 = .ok (.iconst 1, 1) := by decide +kernel
theorem dX0_findCircles_50 : decode cX0_findCircles 50 = .ok (.goto 4, 3) := by decide +kernel
theorem dX0_findCircles_53 : decode cX0_findCircles 53 = .ok (.iconst 0, 1) := by decide +kernel
theorem dX0_findCircles_54 : decode cX0_findCircles 54 = .ok (.bastore, 1) := by decide +kernel
theorem dX0_findCircles_55 : decode cX0_findCircles 55 = .ok (.iinc 2 1, 3) := by decide +kernel
theorem dX0_findCircles_58 : decode cX0_findCircles 58 = .ok (.goto (-56), 3) := by decide +kernel
theorem dX0_findCircles_61 : decode cX0_findCircles 61 = .ok (.return_, 1) := by decide +kernel
theorem dX0_findBarters_0 : decode cX0_findBarters 0 = .ok (.iconst 0, 1) := by decide +kernel
theorem dX0_findBarters_1 : decode cX0_findBarters 1 = .ok (.istore_n 1, 1) := by decide +kernel
theorem dX0_findBarters_2 : decode cX0_findBarters 2 = .ok (.aload_n 0, 1) := by decide +kernel
theorem dX0_findBarters_3 : decode cX0_findBarters 3 = .ok (.getfield 22, 3) := by decide +kernel
theorem dX0_findBarters_6 : decode cX0_findBarters 6 = .ok (.iconst 0, 1) := by decide +kernel
theorem dX0_findBarters_7 : decode cX0_findBarters 7 = .ok (.iconst 1, 1) := by decide +kernel
theorem dX0_findBarters_8 : decode cX0_findBarters 8 = .ok (.bastore, 1) := by decide +kernel
theorem dX0_findBarters_9 : decode cX0_findBarters 9 = .ok (.iconst 1, 1) := by decide +kernel
theorem dX0_findBarters_10 : decode cX0_findBarters 10 = .ok (.istore_n 2, 1) := by decide +kernel
theorem dX0_findBarters_11 : decode cX0_findBarters 11 = .ok (.iload_n 2, 1) := by decide +kernel
theorem dX0_findBarters_12 : decode cX0_findBarters 12 = .ok (.aload_n 0, 1) := by decide +kernel
theorem dX0_findBarters_13 : decode cX0_findBarters 13 = .ok (.getfield 56, 3) := by decide +kernel
theorem dX0_findBarters_16 : decode cX0_findBarters 16 = .ok (.if_icmp .ge 38, 3) := by decide +kernel
theorem dX0_findBarters_19 : decode cX0_findBarters 19 = .ok (.aload_n 0, 1) := by decide +kernel
theorem dX0_findBarters_20 : decode cX0_findBarters 20 = .ok (.getfield 22, 3) := by decide +kernel
theorem dX0_findBarters_23 : decode cX0_findBarters 23 = .ok (.iload_n 2, 1) := by decide +kernel
theorem dX0_findBarters_24 : decode cX0_findBarters 24 = .ok (.aload_n 0, 1) := by decide +kernel
theorem dX0_findBarters_25 : decode cX0_findBarters 25 = .ok (.iload_n 2, 1) := by decide +kernel
theorem dX0_findBarters_26 : decode cX0_findBarters 26 = .ok (.invokevirtual 84, 3) := by decide +kernel
theorem dX0_findBarters_29 : decode cX0_findBarters 29 = .ok (.bastore, 1) := by decide +kernel
theorem dX0_findBarters_30 : decode cX0_findBarters 30 = .ok (.aload_n 0, 1) := by decide +kernel
theorem dX0_findBarters_31 : decode cX0_findBarters 31 = .ok (.getfield 22, 3) := by decide +kernel
theorem dX0_findBarters_34 : decode cX0_findBarters 34 = .ok (.iload_n 2, 1) := by decide +kernel
theorem dX0_findBarters_35 : decode cX0_findBarters 35 = .ok (.baload, 1) := by decide +kernel
theorem dX0_findBarters_36 : decode cX0_findBarters 36 = .ok (.ifCond .eq 12, 3) := by decide +kernel
theorem dX0_findBarters_39 : decode cX0_findBarters 39 = .ok (.iload_n 1, 1) := by decide +kernel
theorem dX0_findBarters_40 : decode cX0_findBarters 40 = .ok (.iload_n 2, 1) := by decide +kernel
theorem dX0_findBarters_41 : decode cX0_findBarters 41 = .ok (.invokestatic 79, 3) := by decide +kernel
theorem dX0_findBarters_44 : decode cX0_findBarters 44 = .ok (.invokestatic 52, 3) := by decide +kernel
theorem dX0_findBarters_47 : decode cX0_findBarters 47 = .ok (.istore_n 1, 1) := by decide +kernel
theorem dX0_findBarters_48 : decode cX0_findBarters 48 = .ok (.iinc 2 1, 3) := by decide +kernel
theorem dX0_findBarters_51 : decode cX0_findBarters 51 = .ok (.goto (-40), 3) := by decide +kernel
theorem dX0_findBarters_54 : decode cX0_findBarters 54 = .ok (.iload_n 1, 1) := by decide +kernel
theorem dX0_findBarters_55 : decode cX0_findBarters 55 = .ok (.ireturn, 1) := by decide +kernel
theorem dX0_isMadeOfCircles_0 : decode cX0_isMadeOfCircles 0 = .ok (.iload_n 1, 1) := by decide +kernel
theorem dX0_isMadeOfCircles_1 : decode cX0_isMadeOfCircles 1 = .ok (.iload_n 1, 1) := by decide +kernel
theorem dX0_isMadeOfCircles_2 : decode cX0_isMadeOfCircles 2 = .ok (.iconst 1, 1) := by decide +kernel
theorem dX0_isMadeOfCircles_3 : decode cX0_isMadeOfCircles 3 = .ok (.isub, 1) := by decide +kernel
theorem dX0_isMadeOfCircles_4 : decode cX0_isMadeOfCircles 4 = .ok (.iand, 1) := by decide +kernel
theorem dX0_isMadeOfCircles_5 : decode cX0_isMadeOfCircles 5 = .ok (.istore_n 2, 1) := by decide +kernel
theorem dX0_isMadeOfCircles_6 : decode cX0_isMadeOfCircles 6 = .ok (.iload_n 1, 1) := by decide +kernel
theorem dX0_isMadeOfCircles_7 : decode cX0_isMadeOfCircles 7 = .ok (.iload_n 2, 1) := by decide +kernel
theorem dX0_isMadeOfCircles_8 : decode cX0_isMadeOfCircles 8 = .ok (.ixor, 1) := by decide +kernel
theorem dX0_isMadeOfCircles_9 : decode cX0_isMadeOfCircles 9 = .ok (.istore_n 3, 1) := by decide +kernel
theorem dX0_isMadeOfCircles_10 : decode cX0_isMadeOfCircles 10 = .ok (.iload_n 2, 1) := by decide +kernel
theorem dX0_isMadeOfCircles_11 : decode cX0_isMadeOfCircles 11 = .ok (.istore 4, 2) := by decide +kernel
theorem dX0_isMadeOfCircles_13 : decode cX0_isMadeOfCircles 13 = .ok (.iload 4, 2) := by decide +kernel
theorem dX0_isMadeOfCircles_15 : decode cX0_isMadeOfCircles 15 = .ok (.ifCond .le 40, 3) := by decide +kernel
theorem dX0_isMadeOfCircles_18 : decode cX0_isMadeOfCircles 18 = .ok (.aload_n 0, 1) := by decide +kernel
theorem dX0_isMadeOfCircles_19 : decode cX0_isMadeOfCircles 19 = .ok (.getfield 18, 3) := by decide +kernel
theorem dX0_isMadeOfCircles_22 : decode cX0_isMadeOfCircles 22 = .ok (.iload_n 3, 1) := by decide +kernel
theorem dX0_isMadeOfCircles_23 : decode cX0_isMadeOfCircles 23 = .ok (.iload 4, 2) := by decide +kernel
theorem dX0_isMadeOfCircles_25 : decode cX0_isMadeOfCircles 25 = .ok (.ior, 1) := by decide +kernel
theorem dX0_isMadeOfCircles_26 : decode cX0_isMadeOfCircles 26 = .ok (.baload, 1) := by decide +kernel
theorem dX0_isMadeOfCircles_27 : decode cX0_isMadeOfCircles 27 = .ok (.ifCond .eq 17, 3) := by decide +kernel
theorem dX0_isMadeOfCircles_30 : decode cX0_isMadeOfCircles 30 = .ok (.aload_n 0, 1) := by decide +kernel
theorem dX0_isMadeOfCircles_31 : decode cX0_isMadeOfCircles 31 = .ok (.getfield 22, 3) := by decide +kernel
theorem dX0_isMadeOfCircles_34 : decode cX0_isMadeOfCircles 34 = .ok (.iload_n 2, 1) := by decide +kernel
theorem dX0_isMadeOfCircles_35 : decode cX0_isMadeOfCircles 35 = .ok (.iload 4, 2) := by decide +kernel
theorem dX0_isMadeOfCircles_37 : decode cX0_isMadeOfCircles 37 = .ok (.ixor, 1) := by decide +kernel
theorem dX0_isMadeOfCircles_38 : decode cX0_isMadeOfCircles 38 = .ok (.baload, 1) := by decide +kernel
theorem dX0_isMadeOfCircles_39 : decode cX0_isMadeOfCircles 39 = .ok (.ifCond .eq 5, 3) := by decide +kernel
theorem dX0_isMadeOfCircles_42 : decode cX0_isMadeOfCircles 42 = .ok (.iconst 1, 1) := by decide +kernel
theorem dX0_isMadeOfCircles_43 : decode cX0_isMadeOfCircles 43 = .ok (.ireturn, 1) := by decide +kernel
theorem dX0_isMadeOfCircles_44 : decode cX0_isMadeOfCircles 44 = .ok (.iload 4, 2) := by decide +kernel
theorem dX0_isMadeOfCircles_46 : decode cX0_isMadeOfCircles 46 = .ok (.iconst 1, 1) := by decide +kernel
theorem dX0_isMadeOfCircles_47 : decode cX0_isMadeOfCircles 47 = .ok (.isub, 1) := by decide +kernel
theorem dX0_isMadeOfCircles_48 : decode cX0_isMadeOfCircles 48 = .ok (.iload_n 2, 1) := by decide +kernel
theorem dX0_isMadeOfCircles_49 : decode cX0_isMadeOfCircles 49 = .ok (.iand, 1) := by decide +kernel
theorem dX0_isMadeOfCircles_50 : decode cX0_isMadeOfCircles 50 = .ok (.istore 4, 2) := by decide +kernel
theorem dX0_isMadeOfCircles_52 : decode cX0_isMadeOfCircles 52 = .ok (.goto (-39), 3) := by decide +kernel
theorem dX0_isMadeOfCircles_55 : decode cX0_isMadeOfCircles 55 = .ok (.iconst 0, 1) := by decide +kernel
theorem dX0_isMadeOfCircles_56 : decode cX0_isMadeOfCircles 56 = .ok (.ireturn, 1) := by decide +kernel
theorem dX0_leastOf_0 : decode cX0_leastOf 0 = .ok (.iconst 0, 1) := by decide +kernel
theorem dX0_leastOf_1 : decode cX0_leastOf 1 = .ok (.istore_n 1, 1) := by decide +kernel
theorem dX0_leastOf_2 : decode cX0_leastOf 2 = .ok (.iload_n 1, 1) := by decide +kernel
theorem dX0_leastOf_3 : decode cX0_leastOf 3 = .ok (.bipush 6, 2) := by decide +kernel
theorem dX0_leastOf_5 : decode cX0_leastOf 5 = .ok (.if_icmp .ge 17, 3) := by decide +kernel
theorem dX0_leastOf_8 : decode cX0_leastOf 8 = .ok (.iload_n 0, 1) := by decide +kernel
theorem dX0_leastOf_9 : decode cX0_leastOf 9 = .ok (.iload_n 1, 1) := by decide +kernel
theorem dX0_leastOf_10 : decode cX0_leastOf 10 = .ok (.invokestatic 69, 3) := by decide +kernel
theorem dX0_leastOf_13 : decode cX0_leastOf 13 = .ok (.ifCond .ne 9, 3) := by decide +kernel
theorem dX0_leastOf_16 : decode cX0_leastOf 16 = .ok (.iinc 1 1, 3) := by decide +kernel
theorem dX0_leastOf_19 : decode cX0_leastOf 19 = .ok (.goto (-17), 3) := by decide +kernel
theorem dX0_leastOf_22 : decode cX0_leastOf 22 = .ok (.iload_n 1, 1) := by decide +kernel
theorem dX0_leastOf_23 : decode cX0_leastOf 23 = .ok (.ireturn, 1) := by decide +kernel
theorem dX1_init_0 : decode cX1_init 0 = .ok (.aload_n 0, 1) := by decide +kernel
theorem dX1_init_1 : decode cX1_init 1 = .ok (.invokespecial 3, 3) := by decide +kernel
theorem dX1_init_4 : decode cX1_init 4 = .ok (.aload_n 0, 1) := by decide +kernel
theorem dX1_init_5 : decode cX1_init 5 = .ok (.iconst 4, 1) := by decide +kernel
theorem dX1_init_6 : decode cX1_init 6 = .ok (.anewarray 9, 3) := by decide +kernel
theorem dX1_init_9 : decode cX1_init 9 = .ok (.putfield 11, 3) := by decide +kernel
theorem dX1_init_12 : decode cX1_init 12 = .ok (.iconst 0, 1) := by decide +kernel
theorem dX1_init_13 : decode cX1_init 13 = .ok (.istore_n 1, 1) := by decide +kernel
theorem dX1_init_14 : decode cX1_init 14 = .ok (.iload_n 1, 1) := by decide +kernel
theorem dX1_init_15 : decode cX1_init 15 = .ok (.iconst 4, 1) := by decide +kernel
theorem dX1_init_16 : decode cX1_init 16 = .ok (.if_icmp .ge 22, 3) := by decide +kernel
theorem dX1_init_19 : decode cX1_init 19 = .ok (.aload_n 0, 1) := by decide +kernel
theorem dX1_init_20 : decode cX1_init 20 = .ok (.getfield 11, 3) := by decide +kernel
theorem dX1_init_23 : decode cX1_init 23 = .ok (.iload_n 1, 1) := by decide +kernel
theorem dX1_init_24 : decode cX1_init 24 = .ok (.new 9, 3) := by decide +kernel
theorem dX1_init_27 : decode cX1_init 27 = .ok (.dup, 1) := by decide +kernel
theorem dX1_init_28 : decode cX1_init 28 = .ok (.invokespecial 17, 3) := by decide +kernel
theorem dX1_init_31 : decode cX1_init 31 = .ok (.aastore, 1) := by decide +kernel
theorem dX1_init_32 : decode cX1_init 32 = .ok (.iinc 1 1, 3) := by decide +kernel
theorem dX1_init_35 : decode cX1_init 35 = .ok (.goto (-21), 3) := by decide +kernel
theorem dX1_init_38 : decode cX1_init 38 = .ok (.return_, 1) := by decide +kernel
theorem dX1_record_0 : decode cX1_record 0 = .ok (.aload_n 0, 1) := by decide +kernel
theorem dX1_record_1 : decode cX1_record 1 = .ok (.aload_n 0, 1) := by decide +kernel
theorem dX1_record_2 : decode cX1_record 2 = .ok (.getfield 18, 3) := by decide +kernel
theorem dX1_record_5 : decode cX1_record 5 = .ok (.iconst 1, 1) := by decide +kernel
theorem dX1_record_6 : decode cX1_record 6 = .ok (.iadd, 1) := by decide +kernel
theorem dX1_record_7 : decode cX1_record 7 = .ok (.iconst 4, 1) := by decide +kernel
theorem dX1_record_8 : decode cX1_record 8 = .ok (.irem, 1) := by decide +kernel
theorem dX1_record_9 : decode cX1_record 9 = .ok (.putfield 18, 3) := by decide +kernel
theorem dX1_record_12 : decode cX1_record 12 = .ok (.aload_n 0, 1) := by decide +kernel
theorem dX1_record_13 : decode cX1_record 13 = .ok (.aload_n 0, 1) := by decide +kernel
theorem dX1_record_14 : decode cX1_record 14 = .ok (.getfield 18, 3) := by decide +kernel
theorem dX1_record_17 : decode cX1_record 17 = .ok (.invokevirtual 22, 3) := by decide +kernel
theorem dX1_record_20 : decode cX1_record 20 = .ok (.astore_n 2, 1) := by decide +kernel
theorem dX1_record_21 : decode cX1_record 21 = .ok (.aload_n 2, 1) := by decide +kernel
theorem dX1_record_22 : decode cX1_record 22 = .ok (.ifnull 22, 3) := by decide +kernel
theorem dX1_record_25 : decode cX1_record 25 = .ok (.aload_n 2, 1) := by decide +kernel
theorem dX1_record_26 : decode cX1_record 26 = .ok (.aload_n 1, 1) := by decide +kernel
theorem dX1_record_27 : decode cX1_record 27 = .ok (.invokevirtual 26, 3) := by decide +kernel
theorem dX1_record_30 : decode cX1_record 30 = .ok (.aload_n 0, 1) := by decide +kernel
theorem dX1_record_31 : decode cX1_record 31 = .ok (.aload_n 0, 1) := by decide +kernel
theorem dX1_record_32 : decode cX1_record 32 = .ok (.getfield 30, 3) := by decide +kernel
theorem dX1_record_35 : decode cX1_record 35 = .ok (.iconst 1, 1) := by decide +kernel
theorem dX1_record_36 : decode cX1_record 36 = .ok (.iadd, 1) := by decide +kernel
theorem dX1_record_37 : decode cX1_record 37 = .ok (.iconst 4, 1) := by decide +kernel
theorem dX1_record_38 : decode cX1_record 38 = .ok (.invokestatic 33, 3) := by decide +kernel
theorem dX1_record_41 : decode cX1_record 41 = .ok (.putfield 30, 3) := by decide +kernel
theorem dX1_record_44 : decode cX1_record 44 = .ok (.return_, 1) := by decide +kernel
theorem dX1_takeBack_0 : decode cX1_takeBack 0 = .ok (.aload_n 0, 1) := by decide +kernel
theorem dX1_takeBack_1 : decode cX1_takeBack 1 = .ok (.aload_n 0, 1) := by decide +kernel
theorem dX1_takeBack_2 : decode cX1_takeBack 2 = .ok (.getfield 18, 3) := by decide +kernel
theorem dX1_takeBack_5 : decode cX1_takeBack 5 = .ok (.invokevirtual 22, 3) := by decide +kernel
theorem dX1_takeBack_8 : decode cX1_takeBack 8 = .ok (.astore_n 2, 1) := by decide +kernel
theorem dX1_takeBack_9 : decode cX1_takeBack 9 = .ok (.aload_n 0, 1) := by decide +kernel
theorem dX1_takeBack_10 : decode cX1_takeBack 10 = .ok (.getfield 30, 3) := by decide +kernel
theorem dX1_takeBack_13 : decode cX1_takeBack 13 = .ok (.ifCond .le 36, 3) := by decide +kernel
theorem dX1_takeBack_16 : decode cX1_takeBack 16 = .ok (.aload_n 2, 1) := by decide +kernel
theorem dX1_takeBack_17 : decode cX1_takeBack 17 = .ok (.ifnull 32, 3) := by decide +kernel
theorem dX1_takeBack_20 : decode cX1_takeBack 20 = .ok (.aload_n 1, 1) := by decide +kernel
theorem dX1_takeBack_21 : decode cX1_takeBack 21 = .ok (.aload_n 2, 1) := by decide +kernel
theorem dX1_takeBack_22 : decode cX1_takeBack 22 = .ok (.invokevirtual 26, 3) := by decide +kernel
theorem dX1_takeBack_25 : decode cX1_takeBack 25 = .ok (.aload_n 0, 1) := by decide +kernel
theorem dX1_takeBack_26 : decode cX1_takeBack 26 = .ok (.dup, 1) := by decide +kernel
theorem dX1_takeBack_27 : decode cX1_takeBack 27 = .ok (.getfield 30, 3) := by decide +kernel
theorem dX1_takeBack_30 : decode cX1_takeBack 30 = .ok (.iconst 1, 1) := by decide +kernel
theorem dX1_takeBack_31 : decode cX1_takeBack 31 = .ok (.isub, 1) := by decide +kernel
theorem dX1_takeBack_32 : decode cX1_takeBack 32 = .ok (.putfield 30, 3) := by decide +kernel
theorem dX1_takeBack_35 : decode cX1_takeBack 35 = .ok (.aload_n 0, 1) := by decide +kernel
theorem dX1_takeBack_36 : decode cX1_takeBack 36 = .ok (.aload_n 0, 1) := by decide +kernel
theorem dX1_takeBack_37 : decode cX1_takeBack 37 = .ok (.getfield 18, 3) := by decide +kernel
theorem dX1_takeBack_40 : decode cX1_takeBack 40 = .ok (.iconst 4, 1) := by decide +kernel
theorem dX1_takeBack_41 : decode cX1_takeBack 41 = .ok (.iadd, 1) := by decide +kernel
theorem dX1_takeBack_42 : decode cX1_takeBack 42 = .ok (.iconst 1, 1) := by decide +kernel
theorem dX1_takeBack_43 : decode cX1_takeBack 43 = .ok (.isub, 1) := by decide +kernel
theorem dX1_takeBack_44 : decode cX1_takeBack 44 = .ok (.iconst 4, 1) := by decide +kernel
theorem dX1_takeBack_45 : decode cX1_takeBack 45 = .ok (.irem, 1) := by decide +kernel
theorem dX1_takeBack_46 : decode cX1_takeBack 46 = .ok (.putfield 18, 3) := by decide +kernel
theorem dX1_takeBack_49 : decode cX1_takeBack 49 = .ok (.return_, 1) := by decide +kernel
theorem dX1_rowAt_0 : decode cX1_rowAt 0 = .ok (.iload_n 1, 1) := by decide +kernel
theorem dX1_rowAt_1 : decode cX1_rowAt 1 = .ok (.ifCond .lt 17, 3) := by decide +kernel
theorem dX1_rowAt_4 : decode cX1_rowAt 4 = .ok (.iload_n 1, 1) := by decide +kernel
theorem dX1_rowAt_5 : decode cX1_rowAt 5 = .ok (.iconst 4, 1) := by decide +kernel
theorem dX1_rowAt_6 : decode cX1_rowAt 6 = .ok (.if_icmp .ge 12, 3) := by decide +kernel
theorem dX1_rowAt_9 : decode cX1_rowAt 9 = .ok (.aload_n 0, 1) := by decide +kernel
theorem dX1_rowAt_10 : decode cX1_rowAt 10 = .ok (.getfield 11, 3) := by decide +kernel
theorem dX1_rowAt_13 : decode cX1_rowAt 13 = .ok (.iload_n 1, 1) := by decide +kernel
theorem dX1_rowAt_14 : decode cX1_rowAt 14 = .ok (.aaload, 1) := by decide +kernel
theorem dX1_rowAt_15 : decode cX1_rowAt 15 = .ok (.goto 4, 3) := by decide +kernel
theorem dX1_rowAt_18 : decode cX1_rowAt 18 = .ok (.aconst_null, 1) := by decide +kernel
theorem dX1_rowAt_19 : decode cX1_rowAt 19 = .ok (.areturn, 1) := by decide +kernel
theorem dX2_init_0 : decode cX2_init 0 = .ok (.aload_n 0, 1) := by decide +kernel
theorem dX2_init_1 : decode cX2_init 1 = .ok (.invokespecial 3, 3) := by decide +kernel
theorem dX2_init_4 : decode cX2_init 4 = .ok (.aload_n 0, 1) := by decide +kernel
theorem dX2_init_5 : decode cX2_init 5 = .ok (.bipush 7, 2) := by decide +kernel
theorem dX2_init_7 : decode cX2_init 7 = .ok (.newarray .int, 2) := by decide +kernel
theorem dX2_init_9 : decode cX2_init 9 = .ok (.putfield 9, 3) := by decide +kernel
theorem dX2_init_12 : decode cX2_init 12 = .ok (.aload_n 0, 1) := by decide +kernel
theorem dX2_init_13 : decode cX2_init 13 = .ok (.bipush 7, 2) := by decide +kernel
theorem dX2_init_15 : decode cX2_init 15 = .ok (.newarray .int, 2) := by decide +kernel
theorem dX2_init_17 : decode cX2_init 17 = .ok (.putfield 15, 3) := by decide +kernel
theorem dX2_init_20 : decode cX2_init 20 = .ok (.aload_n 0, 1) := by decide +kernel
theorem dX2_init_21 : decode cX2_init 21 = .ok (.bipush 7, 2) := by decide +kernel
theorem dX2_init_23 : decode cX2_init 23 = .ok (.newarray .int, 2) := by decide +kernel
theorem dX2_init_25 : decode cX2_init 25 = .ok (.putfield 18, 3) := by decide +kernel
theorem dX2_init_28 : decode cX2_init 28 = .ok (.aload_n 0, 1) := by decide +kernel
theorem dX2_init_29 : decode cX2_init 29 = .ok (.bipush 7, 2) := by decide +kernel
theorem dX2_init_31 : decode cX2_init 31 = .ok (.newarray .int, 2) := by decide +kernel
theorem dX2_init_33 : decode cX2_init 33 = .ok (.putfield 21, 3) := by decide +kernel
theorem dX2_init_36 : decode cX2_init 36 = .ok (.aload_n 0, 1) := by decide +kernel
theorem dX2_init_37 : decode cX2_init 37 = .ok (.bipush 7, 2) := by decide +kernel
theorem dX2_init_39 : decode cX2_init 39 = .ok (.newarray .int, 2) := by decide +kernel
theorem dX2_init_41 : decode cX2_init 41 = .ok (.putfield 24, 3) := by decide +kernel
theorem dX2_init_44 : decode cX2_init 44 = .ok (.aload_n 0, 1) := by decide +kernel
theorem dX2_init_45 : decode cX2_init 45 = .ok (.bipush 6, 2) := by decide +kernel
theorem dX2_init_47 : decode cX2_init 47 = .ok (.newarray .int, 2) := by decide +kernel
theorem dX2_init_49 : decode cX2_init 49 = .ok (.putfield 27, 3) := by decide +kernel
theorem dX2_init_52 : decode cX2_init 52 = .ok (.aload_n 0, 1) := by decide +kernel
theorem dX2_init_53 : decode cX2_init 53 = .ok (.bipush 6, 2) := by decide +kernel
theorem dX2_init_55 : decode cX2_init 55 = .ok (.newarray .int, 2) := by decide +kernel
theorem dX2_init_57 : decode cX2_init 57 = .ok (.putfield 30, 3) := by decide +kernel
theorem dX2_init_60 : decode cX2_init 60 = .ok (.aload_n 0, 1) := by decide +kernel
theorem dX2_init_61 : decode cX2_init 61 = .ok (.bipush 7, 2) := by decide +kernel
theorem dX2_init_63 : decode cX2_init 63 = .ok (.putfield 33, 3) := by decide +kernel
theorem dX2_init_66 : decode cX2_init 66 = .ok (.aload_n 0, 1) := by decide +kernel
theorem dX2_init_67 : decode cX2_init 67 = .ok (.iconst 1, 1) := by decide +kernel
theorem dX2_init_68 : decode cX2_init 68 = .ok (.putfield 37, 3) := by decide +kernel
theorem dX2_init_71 : decode cX2_init 71 = .ok (.aload_n 0, 1) := by decide +kernel
theorem dX2_init_72 : decode cX2_init 72 = .ok (.iconst (-1), 1) := by decide +kernel
theorem dX2_init_73 : decode cX2_init 73 = .ok (.putfield 40, 3) := by decide +kernel
theorem dX2_init_76 : decode cX2_init 76 = .ok (.aload_n 0, 1) := by decide +kernel
theorem dX2_init_77 : decode cX2_init 77 = .ok (.bipush 7, 2) := by decide +kernel
theorem dX2_init_79 : decode cX2_init 79 = .ok (.newarray .int, 2) := by decide +kernel
theorem dX2_init_81 : decode cX2_init 81 = .ok (.putfield 43, 3) := by decide +kernel
theorem dX2_init_84 : decode cX2_init 84 = .ok (.aload_n 0, 1) := by decide +kernel
theorem dX2_init_85 : decode cX2_init 85 = .ok (.bipush 7, 2) := by decide +kernel
theorem dX2_init_87 : decode cX2_init 87 = .ok (.newarray .int, 2) := by decide +kernel
theorem dX2_init_89 : decode cX2_init 89 = .ok (.putfield 46, 3) := by decide +kernel
theorem dX2_init_92 : decode cX2_init 92 = .ok (.aload_n 0, 1) := by decide +kernel
theorem dX2_init_93 : decode cX2_init 93 = .ok (.getfield 27, 3) := by decide +kernel
theorem dX2_init_96 : decode cX2_init 96 = .ok (.iconst 3, 1) := by decide +kernel
theorem dX2_init_97 : decode cX2_init 97 = .ok (.invokestatic 49, 3) := by decide +kernel
theorem dX2_init_100 : decode cX2_init 100 = .ok (.return_, 1) := by decide +kernel
theorem dX2_copyFrom_0 : decode cX2_copyFrom 0 = .ok (.aload_n 1, 1) := by decide +kernel
theorem dX2_copyFrom_1 : decode cX2_copyFrom 1 = .ok (.getfield 9, 3) := by decide +kernel
theorem dX2_copyFrom_4 : decode cX2_copyFrom 4 = .ok (.iconst 0, 1) := by decide +kernel
theorem dX2_copyFrom_5 : decode cX2_copyFrom 5 = .ok (.aload_n 0, 1) := by decide +kernel
theorem dX2_copyFrom_6 : decode cX2_copyFrom 6 = .ok (.getfield 9, 3) := by decide +kernel
theorem dX2_copyFrom_9 : decode cX2_copyFrom 9 = .ok (.iconst 0, 1) := by decide +kernel
theorem dX2_copyFrom_10 : decode cX2_copyFrom 10 = .ok (.bipush 7, 2) := by decide +kernel
theorem dX2_copyFrom_12 : decode cX2_copyFrom 12 = .ok (.invokestatic 55, 3) := by decide +kernel
theorem dX2_copyFrom_15 : decode cX2_copyFrom 15 = .ok (.aload_n 1, 1) := by decide +kernel
theorem dX2_copyFrom_16 : decode cX2_copyFrom 16 = .ok (.getfield 15, 3) := by decide +kernel
theorem dX2_copyFrom_19 : decode cX2_copyFrom 19 = .ok (.iconst 0, 1) := by decide +kernel
theorem dX2_copyFrom_20 : decode cX2_copyFrom 20 = .ok (.aload_n 0, 1) := by decide +kernel
theorem dX2_copyFrom_21 : decode cX2_copyFrom 21 = .ok (.getfield 15, 3) := by decide +kernel
theorem dX2_copyFrom_24 : decode cX2_copyFrom 24 = .ok (.iconst 0, 1) := by decide +kernel
theorem dX2_copyFrom_25 : decode cX2_copyFrom 25 = .ok (.bipush 7, 2) := by decide +kernel
theorem dX2_copyFrom_27 : decode cX2_copyFrom 27 = .ok (.invokestatic 55, 3) := by decide +kernel
theorem dX2_copyFrom_30 : decode cX2_copyFrom 30 = .ok (.aload_n 1, 1) := by decide +kernel
theorem dX2_copyFrom_31 : decode cX2_copyFrom 31 = .ok (.getfield 18, 3) := by decide +kernel
theorem dX2_copyFrom_34 : decode cX2_copyFrom 34 = .ok (.iconst 0, 1) := by decide +kernel
theorem dX2_copyFrom_35 : decode cX2_copyFrom 35 = .ok (.aload_n 0, 1) := by decide +kernel
theorem dX2_copyFrom_36 : decode cX2_copyFrom 36 = .ok (.getfield 18, 3) := by decide +kernel
theorem dX2_copyFrom_39 : decode cX2_copyFrom 39 = .ok (.iconst 0, 1) := by decide +kernel
theorem dX2_copyFrom_40 : decode cX2_copyFrom 40 = .ok (.bipush 7, 2) := by decide +kernel
theorem dX2_copyFrom_42 : decode cX2_copyFrom 42 = .ok (.invokestatic 55, 3) := by decide +kernel
theorem dX2_copyFrom_45 : decode cX2_copyFrom 45 = .ok (.aload_n 1, 1) := by decide +kernel
theorem dX2_copyFrom_46 : decode cX2_copyFrom 46 = .ok (.getfield 21, 3) := by decide +kernel
theorem dX2_copyFrom_49 : decode cX2_copyFrom 49 = .ok (.iconst 0, 1) := by decide +kernel
theorem dX2_copyFrom_50 : decode cX2_copyFrom 50 = .ok (.aload_n 0, 1) := by decide +kernel
theorem dX2_copyFrom_51 : decode cX2_copyFrom 51 = .ok (.getfield 21, 3) := by decide +kernel
theorem dX2_copyFrom_54 : decode cX2_copyFrom 54 = .ok (.iconst 0, 1) := by decide +kernel
theorem dX2_copyFrom_55 : decode cX2_copyFrom 55 = .ok (.bipush 7, 2) := by decide +kernel
theorem dX2_copyFrom_57 : decode cX2_copyFrom 57 = .ok (.invokestatic 55, 3) := by decide +kernel
theorem dX2_copyFrom_60 : decode cX2_copyFrom 60 = .ok (.aload_n 1, 1) := by decide +kernel
theorem dX2_copyFrom_61 : decode cX2_copyFrom 61 = .ok (.getfield 24, 3) := by decide +kernel
theorem dX2_copyFrom_64 : decode cX2_copyFrom 64 = .ok (.iconst 0, 1) := by decide +kernel
theorem dX2_copyFrom_65 : decode cX2_copyFrom 65 = .ok (.aload_n 0, 1) := by decide +kernel
theorem dX2_copyFrom_66 : decode cX2_copyFrom 66 = .ok (.getfield 24, 3) := by decide +kernel
theorem dX2_copyFrom_69 : decode cX2_copyFrom 69 = .ok (.iconst 0, 1) := by decide +kernel
theorem dX2_copyFrom_70 : decode cX2_copyFrom 70 = .ok (.bipush 7, 2) := by decide +kernel
theorem dX2_copyFrom_72 : decode cX2_copyFrom 72 = .ok (.invokestatic 55, 3) := by decide +kernel
theorem dX2_copyFrom_75 : decode cX2_copyFrom 75 = .ok (.aload_n 1, 1) := by decide +kernel
theorem dX2_copyFrom_76 : decode cX2_copyFrom 76 = .ok (.getfield 27, 3) := by decide +kernel
theorem dX2_copyFrom_79 : decode cX2_copyFrom 79 = .ok (.iconst 0, 1) := by decide +kernel
theorem dX2_copyFrom_80 : decode cX2_copyFrom 80 = .ok (.aload_n 0, 1) := by decide +kernel
theorem dX2_copyFrom_81 : decode cX2_copyFrom 81 = .ok (.getfield 27, 3) := by decide +kernel
theorem dX2_copyFrom_84 : decode cX2_copyFrom 84 = .ok (.iconst 0, 1) := by decide +kernel
theorem dX2_copyFrom_85 : decode cX2_copyFrom 85 = .ok (.bipush 6, 2) := by decide +kernel
theorem dX2_copyFrom_87 : decode cX2_copyFrom 87 = .ok (.invokestatic 55, 3) := by decide +kernel
theorem dX2_copyFrom_90 : decode cX2_copyFrom 90 = .ok (.aload_n 1, 1) := by decide +kernel
theorem dX2_copyFrom_91 : decode cX2_copyFrom 91 = .ok (.getfield 30, 3) := by decide +kernel
theorem dX2_copyFrom_94 : decode cX2_copyFrom 94 = .ok (.iconst 0, 1) := by decide +kernel
theorem dX2_copyFrom_95 : decode cX2_copyFrom 95 = .ok (.aload_n 0, 1) := by decide +kernel
theorem dX2_copyFrom_96 : decode cX2_copyFrom 96 = .ok (.getfield 30, 3) := by decide +kernel
theorem dX2_copyFrom_99 : decode cX2_copyFrom 99 = .ok (.iconst 0, 1) := by decide +kernel
theorem dX2_copyFrom_100 : decode cX2_copyFrom 100 = .ok (.bipush 6, 2) := by decide +kernel
theorem dX2_copyFrom_102 : decode cX2_copyFrom 102 = .ok (.invokestatic 55, 3) := by decide +kernel
theorem dX2_copyFrom_105 : decode cX2_copyFrom 105 = .ok (.aload_n 0, 1) := by decide +kernel
theorem dX2_copyFrom_106 : decode cX2_copyFrom 106 = .ok (.aload_n 1, 1) := by decide +kernel
theorem dX2_copyFrom_107 : decode cX2_copyFrom 107 = .ok (.getfield 61, 3) := by decide +kernel
theorem dX2_copyFrom_110 : decode cX2_copyFrom 110 = .ok (.putfield 61, 3) := by decide +kernel
theorem dX2_copyFrom_113 : decode cX2_copyFrom 113 = .ok (.aload_n 0, 1) := by decide +kernel
theorem dX2_copyFrom_114 : decode cX2_copyFrom 114 = .ok (.aload_n 1, 1) := by decide +kernel
theorem dX2_copyFrom_115 : decode cX2_copyFrom 115 = .ok (.getfield 33, 3) := by decide +kernel
theorem dX2_copyFrom_118 : decode cX2_copyFrom 118 = .ok (.putfield 33, 3) := by decide +kernel
theorem dX2_copyFrom_121 : decode cX2_copyFrom 121 = .ok (.aload_n 0, 1) := by decide +kernel
theorem dX2_copyFrom_122 : decode cX2_copyFrom 122 = .ok (.aload_n 1, 1) := by decide +kernel
theorem dX2_copyFrom_123 : decode cX2_copyFrom 123 = .ok (.getfield 64, 3) := by decide +kernel
theorem dX2_copyFrom_126 : decode cX2_copyFrom 126 = .ok (.putfield 64, 3) := by decide +kernel
theorem dX2_copyFrom_129 : decode cX2_copyFrom 129 = .ok (.aload_n 0, 1) := by decide +kernel
theorem dX2_copyFrom_130 : decode cX2_copyFrom 130 = .ok (.aload_n 1, 1) := by decide +kernel
theorem dX2_copyFrom_131 : decode cX2_copyFrom 131 = .ok (.getfield 37, 3) := by decide +kernel
theorem dX2_copyFrom_134 : decode cX2_copyFrom 134 = .ok (.putfield 37, 3) := by decide +kernel
theorem dX2_copyFrom_137 : decode cX2_copyFrom 137 = .ok (.aload_n 0, 1) := by decide +kernel
theorem dX2_copyFrom_138 : decode cX2_copyFrom 138 = .ok (.aload_n 1, 1) := by decide +kernel
theorem dX2_copyFrom_139 : decode cX2_copyFrom 139 = .ok (.getfield 40, 3) := by decide +kernel
theorem dX2_copyFrom_142 : decode cX2_copyFrom 142 = .ok (.putfield 40, 3) := by decide +kernel
theorem dX2_copyFrom_145 : decode cX2_copyFrom 145 = .ok (.aload_n 0, 1) := by decide +kernel
theorem dX2_copyFrom_146 : decode cX2_copyFrom 146 = .ok (.aload_n 1, 1) := by decide +kernel
theorem dX2_copyFrom_147 : decode cX2_copyFrom 147 = .ok (.getfield 67, 3) := by decide +kernel
theorem dX2_copyFrom_150 : decode cX2_copyFrom 150 = .ok (.putfield 67, 3) := by decide +kernel
theorem dX2_copyFrom_153 : decode cX2_copyFrom 153 = .ok (.aload_n 0, 1) := by decide +kernel
theorem dX2_copyFrom_154 : decode cX2_copyFrom 154 = .ok (.aload_n 1, 1) := by decide +kernel
theorem dX2_copyFrom_155 : decode cX2_copyFrom 155 = .ok (.getfield 70, 3) := by decide +kernel
theorem dX2_copyFrom_158 : decode cX2_copyFrom 158 = .ok (.putfield 70, 3) := by decide +kernel
theorem dX2_copyFrom_161 : decode cX2_copyFrom 161 = .ok (.aload_n 0, 1) := by decide +kernel
theorem dX2_copyFrom_162 : decode cX2_copyFrom 162 = .ok (.aload_n 1, 1) := by decide +kernel
theorem dX2_copyFrom_163 : decode cX2_copyFrom 163 = .ok (.getfield 73, 3) := by decide +kernel
theorem dX2_copyFrom_166 : decode cX2_copyFrom 166 = .ok (.putfield 73, 3) := by decide +kernel
theorem dX2_copyFrom_169 : decode cX2_copyFrom 169 = .ok (.aload_n 0, 1) := by decide +kernel
theorem dX2_copyFrom_170 : decode cX2_copyFrom 170 = .ok (.aload_n 1, 1) := by decide +kernel
theorem dX2_copyFrom_171 : decode cX2_copyFrom 171 = .ok (.getfield 76, 3) := by decide +kernel
theorem dX2_copyFrom_174 : decode cX2_copyFrom 174 = .ok (.putfield 76, 3) := by decide +kernel
theorem dX2_copyFrom_177 : decode cX2_copyFrom 177 = .ok (.return_, 1) := by decide +kernel
theorem dX2_has_0 : decode cX2_has 0 = .ok (.iload_n 1, 1) := by decide +kernel
theorem dX2_has_1 : decode cX2_has 1 = .ok (.ifCond .lt 24, 3) := by decide +kernel
theorem dX2_has_4 : decode cX2_has 4 = .ok (.iload_n 1, 1) := by decide +kernel
theorem dX2_has_5 : decode cX2_has 5 = .ok (.aload_n 0, 1) := by decide +kernel
theorem dX2_has_6 : decode cX2_has 6 = .ok (.getfield 61, 3) := by decide +kernel
theorem dX2_has_9 : decode cX2_has 9 = .ok (.if_icmp .ge 16, 3) := by decide +kernel
theorem dX2_has_12 : decode cX2_has 12 = .ok (.aload_n 0, 1) := by decide +kernel
theorem dX2_has_13 : decode cX2_has 13 = .ok (.getfield 61, 3) := by decide +kernel
theorem dX2_has_16 : decode cX2_has 16 = .ok (.bipush 7, 2) := by decide +kernel
theorem dX2_has_18 : decode cX2_has 18 = .ok (.if_icmp .gt 7, 3) := by decide +kernel
theorem dX2_has_21 : decode cX2_has 21 = .ok (.iconst 1, 1) := by decide +kernel
theorem dX2_has_22 : decode cX2_has 22 = .ok (.goto 4, 3) := by decide +kernel
theorem dX2_has_25 : decode cX2_has 25 = .ok (.iconst 0, 1) := by decide +kernel
theorem dX2_has_26 : decode cX2_has 26 = .ok (.ireturn, 1) := by decide +kernel
theorem dX2_hasBoth_0 : decode cX2_hasBoth 0 = .ok (.aload_n 0, 1) := by decide +kernel
theorem dX2_hasBoth_1 : decode cX2_hasBoth 1 = .ok (.iload_n 1, 1) := by decide +kernel
theorem dX2_hasBoth_2 : decode cX2_hasBoth 2 = .ok (.invokevirtual 79, 3) := by decide +kernel
theorem dX2_hasBoth_5 : decode cX2_hasBoth 5 = .ok (.ifCond .eq 20, 3) := by decide +kernel
theorem dX2_hasBoth_8 : decode cX2_hasBoth 8 = .ok (.aload_n 0, 1) := by decide +kernel
theorem dX2_hasBoth_9 : decode cX2_hasBoth 9 = .ok (.iload_n 2, 1) := by decide +kernel
theorem dX2_hasBoth_10 : decode cX2_hasBoth 10 = .ok (.invokevirtual 79, 3) := by decide +kernel
theorem dX2_hasBoth_13 : decode cX2_hasBoth 13 = .ok (.ifCond .eq 12, 3) := by decide +kernel
theorem dX2_hasBoth_16 : decode cX2_hasBoth 16 = .ok (.iload_n 1, 1) := by decide +kernel
theorem dX2_hasBoth_17 : decode cX2_hasBoth 17 = .ok (.iload_n 2, 1) := by decide +kernel
theorem dX2_hasBoth_18 : decode cX2_hasBoth 18 = .ok (.if_icmp .eq 7, 3) := by decide +kernel
theorem dX2_hasBoth_21 : decode cX2_hasBoth 21 = .ok (.iconst 1, 1) := by decide +kernel
theorem dX2_hasBoth_22 : decode cX2_hasBoth 22 = .ok (.goto 4, 3) := by decide +kernel
theorem dX2_hasBoth_25 : decode cX2_hasBoth 25 = .ok (.iconst 0, 1) := by decide +kernel
theorem dX2_hasBoth_26 : decode cX2_hasBoth 26 = .ok (.ireturn, 1) := by decide +kernel
theorem dX2_add_0 : decode cX2_add 0 = .ok (.aload_n 0, 1) := by decide +kernel
theorem dX2_add_1 : decode cX2_add 1 = .ok (.getfield 61, 3) := by decide +kernel
theorem dX2_add_4 : decode cX2_add 4 = .ok (.ifCond .lt 12, 3) := by decide +kernel
theorem dX2_add_7 : decode cX2_add 7 = .ok (.aload_n 0, 1) := by decide +kernel
theorem dX2_add_8 : decode cX2_add 8 = .ok (.getfield 61, 3) := by decide +kernel
theorem dX2_add_11 : decode cX2_add 11 = .ok (.bipush 7, 2) := by decide +kernel
theorem dX2_add_13 : decode cX2_add 13 = .ok (.if_icmp .lt 4, 3) := by decide +kernel
theorem dX2_add_16 : decode cX2_add 16 = .ok (.return_, 1) := by decide +kernel
theorem dX2_add_17 : decode cX2_add 17 = .ok (.aload_n 0, 1) := by decide +kernel
theorem dX2_add_18 : decode cX2_add 18 = .ok (.getfield 9, 3) := by decide +kernel
theorem dX2_add_21 : decode cX2_add 21 = .ok (.aload_n 0, 1) := by decide +kernel
theorem dX2_add_22 : decode cX2_add 22 = .ok (.getfield 61, 3) := by decide +kernel
theorem dX2_add_25 : decode cX2_add 25 = .ok (.iload_n 1, 1) := by decide +kernel
theorem dX2_add_26 : decode cX2_add 26 = .ok (.iastore, 1) := by decide +kernel
theorem dX2_add_27 : decode cX2_add 27 = .ok (.aload_n 0, 1) := by decide +kernel
theorem dX2_add_28 : decode cX2_add 28 = .ok (.getfield 15, 3) := by decide +kernel
theorem dX2_add_31 : decode cX2_add 31 = .ok (.aload_n 0, 1) := by decide +kernel
theorem dX2_add_32 : decode cX2_add 32 = .ok (.getfield 61, 3) := by decide +kernel
theorem dX2_add_35 : decode cX2_add 35 = .ok (.iload_n 2, 1) := by decide +kernel
theorem dX2_add_36 : decode cX2_add 36 = .ok (.iastore, 1) := by decide +kernel
theorem dX2_add_37 : decode cX2_add 37 = .ok (.aload_n 0, 1) := by decide +kernel
theorem dX2_add_38 : decode cX2_add 38 = .ok (.getfield 24, 3) := by decide +kernel
theorem dX2_add_41 : decode cX2_add 41 = .ok (.aload_n 0, 1) := by decide +kernel
theorem dX2_add_42 : decode cX2_add 42 = .ok (.getfield 61, 3) := by decide +kernel
theorem dX2_add_45 : decode cX2_add 45 = .ok (.iconst 0, 1) := by decide +kernel
theorem dX2_add_46 : decode cX2_add 46 = .ok (.iastore, 1) := by decide +kernel
theorem dX2_add_47 : decode cX2_add 47 = .ok (.aload_n 0, 1) := by decide +kernel
theorem dX2_add_48 : decode cX2_add 48 = .ok (.aload_n 0, 1) := by decide +kernel
theorem dX2_add_49 : decode cX2_add 49 = .ok (.getfield 61, 3) := by decide +kernel
theorem dX2_add_52 : decode cX2_add 52 = .ok (.invokevirtual 83, 3) := by decide +kernel
theorem dX2_add_55 : decode cX2_add 55 = .ok (.aload_n 0, 1) := by decide +kernel
theorem dX2_add_56 : decode cX2_add 56 = .ok (.dup, 1) := by decide +kernel
theorem dX2_add_57 : decode cX2_add 57 = .ok (.getfield 61, 3) := by decide +kernel
theorem dX2_add_60 : decode cX2_add 60 = .ok (.iconst 1, 1) := by decide +kernel
theorem dX2_add_61 : decode cX2_add 61 = .ok (.iadd, 1) := by decide +kernel
theorem dX2_add_62 : decode cX2_add 62 = .ok (.putfield 61, 3) := by decide +kernel
theorem dX2_add_65 : decode cX2_add 65 = .ok (.return_, 1) := by decide +kernel
theorem dX2_remove_0 : decode cX2_remove 0 = .ok (.iload_n 1, 1) := by decide +kernel
theorem dX2_remove_1 : decode cX2_remove 1 = .ok (.istore_n 2, 1) := by decide +kernel
theorem dX2_remove_2 : decode cX2_remove 2 = .ok (.iload_n 2, 1) := by decide +kernel
theorem dX2_remove_3 : decode cX2_remove 3 = .ok (.ifCond .lt 89, 3) := by decide +kernel
theorem dX2_remove_6 : decode cX2_remove 6 = .ok (.iload_n 2, 1) := by decide +kernel
theorem dX2_remove_7 : decode cX2_remove 7 = .ok (.aload_n 0, 1) := by decide +kernel
theorem dX2_remove_8 : decode cX2_remove 8 = .ok (.getfield 61, 3) := by decide +kernel
theorem dX2_remove_11 : decode cX2_remove 11 = .ok (.iconst 1, 1) := by decide +kernel
theorem dX2_remove_12 : decode cX2_remove 12 = .ok (.isub, 1) := by decide +kernel
theorem dX2_remove_13 : decode cX2_remove 13 = .ok (.if_icmp .ge 79, 3) := by decide +kernel
theorem dX2_remove_16 : decode cX2_remove 16 = .ok (.aload_n 0, 1) := by decide +kernel
theorem dX2_remove_17 : decode cX2_remove 17 = .ok (.getfield 9, 3) := by decide +kernel
theorem dX2_remove_20 : decode cX2_remove 20 = .ok (.iload_n 2, 1) := by decide +kernel
theorem dX2_remove_21 : decode cX2_remove 21 = .ok (.aload_n 0, 1) := by decide +kernel
theorem dX2_remove_22 : decode cX2_remove 22 = .ok (.getfield 9, 3) := by decide +kernel
theorem dX2_remove_25 : decode cX2_remove 25 = .ok (.iload_n 2, 1) := by decide +kernel
theorem dX2_remove_26 : decode cX2_remove 26 = .ok (.iconst 1, 1) := by decide +kernel
theorem dX2_remove_27 : decode cX2_remove 27 = .ok (.iadd, 1) := by decide +kernel
theorem dX2_remove_28 : decode cX2_remove 28 = .ok (.iaload, 1) := by decide +kernel
theorem dX2_remove_29 : decode cX2_remove 29 = .ok (.iastore, 1) := by decide +kernel
theorem dX2_remove_30 : decode cX2_remove 30 = .ok (.aload_n 0, 1) := by decide +kernel
theorem dX2_remove_31 : decode cX2_remove 31 = .ok (.getfield 15, 3) := by decide +kernel
theorem dX2_remove_34 : decode cX2_remove 34 = .ok (.iload_n 2, 1) := by decide +kernel
theorem dX2_remove_35 : decode cX2_remove 35 = .ok (.aload_n 0, 1) := by decide +kernel
theorem dX2_remove_36 : decode cX2_remove 36 = .ok (.getfield 15, 3) := by decide +kernel
theorem dX2_remove_39 : decode cX2_remove 39 = .ok (.iload_n 2, 1) := by decide +kernel
theorem dX2_remove_40 : decode cX2_remove 40 = .ok (.iconst 1, 1) := by decide +kernel
theorem dX2_remove_41 : decode cX2_remove 41 = .ok (.iadd, 1) := by decide +kernel
theorem dX2_remove_42 : decode cX2_remove 42 = .ok (.iaload, 1) := by decide +kernel
theorem dX2_remove_43 : decode cX2_remove 43 = .ok (.iastore, 1) := by decide +kernel
theorem dX2_remove_44 : decode cX2_remove 44 = .ok (.aload_n 0, 1) := by decide +kernel
theorem dX2_remove_45 : decode cX2_remove 45 = .ok (.getfield 18, 3) := by decide +kernel
theorem dX2_remove_48 : decode cX2_remove 48 = .ok (.iload_n 2, 1) := by decide +kernel
theorem dX2_remove_49 : decode cX2_remove 49 = .ok (.aload_n 0, 1) := by decide +kernel
theorem dX2_remove_50 : decode cX2_remove 50 = .ok (.getfield 18, 3) := by decide +kernel
theorem dX2_remove_53 : decode cX2_remove 53 = .ok (.iload_n 2, 1) := by decide +kernel
theorem dX2_remove_54 : decode cX2_remove 54 = .ok (.iconst 1, 1) := by decide +kernel
theorem dX2_remove_55 : decode cX2_remove 55 = .ok (.iadd, 1) := by decide +kernel
theorem dX2_remove_56 : decode cX2_remove 56 = .ok (.iaload, 1) := by decide +kernel
theorem dX2_remove_57 : decode cX2_remove 57 = .ok (.iastore, 1) := by decide +kernel
theorem dX2_remove_58 : decode cX2_remove 58 = .ok (.aload_n 0, 1) := by decide +kernel
theorem dX2_remove_59 : decode cX2_remove 59 = .ok (.getfield 21, 3) := by decide +kernel
theorem dX2_remove_62 : decode cX2_remove 62 = .ok (.iload_n 2, 1) := by decide +kernel
theorem dX2_remove_63 : decode cX2_remove 63 = .ok (.aload_n 0, 1) := by decide +kernel
theorem dX2_remove_64 : decode cX2_remove 64 = .ok (.getfield 21, 3) := by decide +kernel
theorem dX2_remove_67 : decode cX2_remove 67 = .ok (.iload_n 2, 1) := by decide +kernel
theorem dX2_remove_68 : decode cX2_remove 68 = .ok (.iconst 1, 1) := by decide +kernel
theorem dX2_remove_69 : decode cX2_remove 69 = .ok (.iadd, 1) := by decide +kernel
theorem dX2_remove_70 : decode cX2_remove 70 = .ok (.iaload, 1) := by decide +kernel
theorem dX2_remove_71 : decode cX2_remove 71 = .ok (.iastore, 1) := by decide +kernel
theorem dX2_remove_72 : decode cX2_remove 72 = .ok (.aload_n 0, 1) := by decide +kernel
theorem dX2_remove_73 : decode cX2_remove 73 = .ok (.getfield 24, 3) := by decide +kernel
theorem dX2_remove_76 : decode cX2_remove 76 = .ok (.iload_n 2, 1) := by decide +kernel
theorem dX2_remove_77 : decode cX2_remove 77 = .ok (.aload_n 0, 1) := by decide +kernel
theorem dX2_remove_78 : decode cX2_remove 78 = .ok (.getfield 24, 3) := by decide +kernel
theorem dX2_remove_81 : decode cX2_remove 81 = .ok (.iload_n 2, 1) := by decide +kernel
theorem dX2_remove_82 : decode cX2_remove 82 = .ok (.iconst 1, 1) := by decide +kernel
theorem dX2_remove_83 : decode cX2_remove 83 = .ok (.iadd, 1) := by decide +kernel
theorem dX2_remove_84 : decode cX2_remove 84 = .ok (.iaload, 1) := by decide +kernel
theorem dX2_remove_85 : decode cX2_remove 85 = .ok (.iastore, 1) := by decide +kernel
theorem dX2_remove_86 : decode cX2_remove 86 = .ok (.iinc 2 1, 3) := by decide +kernel
theorem dX2_remove_89 : decode cX2_remove 89 = .ok (.goto (-87), 3) := by decide +kernel
theorem dX2_remove_92 : decode cX2_remove 92 = .ok (.aload_n 0, 1) := by decide +kernel
theorem dX2_remove_93 : decode cX2_remove 93 = .ok (.dup, 1) := by decide +kernel
theorem dX2_remove_94 : decode cX2_remove 94 = .ok (.getfield 61, 3) := by decide +kernel
theorem dX2_remove_97 : decode cX2_remove 97 = .ok (.iconst 1, 1) := by decide +kernel
theorem dX2_remove_98 : decode cX2_remove 98 = .ok (.isub, 1) := by decide +kernel
theorem dX2_remove_99 : decode cX2_remove 99 = .ok (.putfield 61, 3) := by decide +kernel
theorem dX2_remove_102 : decode cX2_remove 102 = .ok (.aload_n 0, 1) := by decide +kernel
theorem dX2_remove_103 : decode cX2_remove 103 = .ok (.getfield 40, 3) := by decide +kernel
theorem dX2_remove_106 : decode cX2_remove 106 = .ok (.iload_n 1, 1) := by decide +kernel
theorem dX2_remove_107 : decode cX2_remove 107 = .ok (.if_icmp .ne 11, 3) := by decide +kernel
theorem dX2_remove_110 : decode cX2_remove 110 = .ok (.aload_n 0, 1) := by decide +kernel
theorem dX2_remove_111 : decode cX2_remove 111 = .ok (.iconst (-1), 1) := by decide +kernel
theorem dX2_remove_112 : decode cX2_remove 112 = .ok (.putfield 40, 3) := by decide +kernel
theorem dX2_remove_115 : decode cX2_remove 115 = .ok (.goto 21, 3) := by decide +kernel
theorem dX2_remove_118 : decode cX2_remove 118 = .ok (.aload_n 0, 1) := by decide +kernel
theorem dX2_remove_119 : decode cX2_remove 119 = .ok (.getfield 40, 3) := by decide +kernel
theorem dX2_remove_122 : decode cX2_remove 122 = .ok (.iload_n 1, 1) := by decide +kernel
theorem dX2_remove_123 : decode cX2_remove 123 = .ok (.if_icmp .le 13, 3) := by decide +kernel
theorem dX2_remove_126 : decode cX2_remove 126 = .ok (.aload_n 0, 1) := by decide +kernel
theorem dX2_remove_127 : decode cX2_remove 127 = .ok (.dup, 1) := by decide +kernel
theorem dX2_remove_128 : decode cX2_remove 128 = .ok (.getfield 40, 3) := by decide +kernel
theorem dX2_remove_131 : decode cX2_remove 131 = .ok (.iconst 1, 1) := by decide +kernel
theorem dX2_remove_132 : decode cX2_remove 132 = .ok (.isub, 1) := by decide +kernel
theorem dX2_remove_133 : decode cX2_remove 133 = .ok (.putfield 40, 3) := by decide +kernel
theorem dX2_remove_136 : decode cX2_remove 136 = .ok (.return_, 1) := by decide +kernel
theorem dX2_makeWare_0 : decode cX2_makeWare 0 = .ok (.aload_n 0, 1) := by decide +kernel
theorem dX2_makeWare_1 : decode cX2_makeWare 1 = .ok (.getfield 18, 3) := by decide +kernel
theorem dX2_makeWare_4 : decode cX2_makeWare 4 = .ok (.iload_n 1, 1) := by decide +kernel
theorem dX2_makeWare_5 : decode cX2_makeWare 5 = .ok (.aload_n 0, 1) := by decide +kernel
theorem dX2_makeWare_6 : decode cX2_makeWare 6 = .ok (.getfield 9, 3) := by decide +kernel
theorem dX2_makeWare_9 : decode cX2_makeWare 9 = .ok (.iload_n 1, 1) := by decide +kernel
theorem dX2_makeWare_10 : decode cX2_makeWare 10 = .ok (.iaload, 1) := by decide +kernel
theorem dX2_makeWare_11 : decode cX2_makeWare 11 = .ok (.iastore, 1) := by decide +kernel
theorem dX2_makeWare_12 : decode cX2_makeWare 12 = .ok (.aload_n 0, 1) := by decide +kernel
theorem dX2_makeWare_13 : decode cX2_makeWare 13 = .ok (.getfield 21, 3) := by decide +kernel
theorem dX2_makeWare_16 : decode cX2_makeWare 16 = .ok (.iload_n 1, 1) := by decide +kernel
theorem dX2_makeWare_17 : decode cX2_makeWare 17 = .ok (.iconst 0, 1) := by decide +kernel
theorem dX2_makeWare_18 : decode cX2_makeWare 18 = .ok (.iastore, 1) := by decide +kernel
theorem dX2_makeWare_19 : decode cX2_makeWare 19 = .ok (.aload_n 0, 1) := by decide +kernel
theorem dX2_makeWare_20 : decode cX2_makeWare 20 = .ok (.dup, 1) := by decide +kernel
theorem dX2_makeWare_21 : decode cX2_makeWare 21 = .ok (.getfield 70, 3) := by decide +kernel
theorem dX2_makeWare_24 : decode cX2_makeWare 24 = .ok (.iconst 1, 1) := by decide +kernel
theorem dX2_makeWare_25 : decode cX2_makeWare 25 = .ok (.iadd, 1) := by decide +kernel
theorem dX2_makeWare_26 : decode cX2_makeWare 26 = .ok (.putfield 70, 3) := by decide +kernel
theorem dX2_makeWare_29 : decode cX2_makeWare 29 = .ok (.return_, 1) := by decide +kernel
theorem dX2_hasWare_0 : decode cX2_hasWare 0 = .ok (.aload_n 0, 1) := by decide +kernel
theorem dX2_hasWare_1 : decode cX2_hasWare 1 = .ok (.iload_n 1, 1) := by decide +kernel
theorem dX2_hasWare_2 : decode cX2_hasWare 2 = .ok (.invokevirtual 79, 3) := by decide +kernel
theorem dX2_hasWare_5 : decode cX2_hasWare 5 = .ok (.ifCond .eq 19, 3) := by decide +kernel
theorem dX2_hasWare_8 : decode cX2_hasWare 8 = .ok (.aload_n 0, 1) := by decide +kernel
theorem dX2_hasWare_9 : decode cX2_hasWare 9 = .ok (.getfield 18, 3) := by decide +kernel
theorem dX2_hasWare_12 : decode cX2_hasWare 12 = .ok (.iload_n 1, 1) := by decide +kernel
theorem dX2_hasWare_13 : decode cX2_hasWare 13 = .ok (.iaload, 1) := by decide +kernel
theorem dX2_hasWare_14 : decode cX2_hasWare 14 = .ok (.invokestatic 87, 3) := by decide +kernel
theorem dX2_hasWare_17 : decode cX2_hasWare 17 = .ok (.ifCond .eq 7, 3) := by decide +kernel
theorem dX2_hasWare_20 : decode cX2_hasWare 20 = .ok (.iconst 1, 1) := by decide +kernel
theorem dX2_hasWare_21 : decode cX2_hasWare 21 = .ok (.goto 4, 3) := by decide +kernel
theorem dX2_hasWare_24 : decode cX2_hasWare 24 = .ok (.iconst 0, 1) := by decide +kernel
theorem dX2_hasWare_25 : decode cX2_hasWare 25 = .ok (.ireturn, 1) := by decide +kernel
theorem dX2_hasSoundWare_0 : decode cX2_hasSoundWare 0 = .ok (.aload_n 0, 1) := by decide +kernel
theorem dX2_hasSoundWare_1 : decode cX2_hasSoundWare 1 = .ok (.iload_n 1, 1) := by decide +kernel
theorem dX2_hasSoundWare_2 : decode cX2_hasSoundWare 2 = .ok (.invokevirtual 90, 3) := by decide +kernel
theorem dX2_hasSoundWare_5 : decode cX2_hasSoundWare 5 = .ok (.ifCond .eq 27, 3) := by decide +kernel
theorem dX2_hasSoundWare_8 : decode cX2_hasSoundWare 8 = .ok (.aload_n 0, 1) := by decide +kernel
theorem dX2_hasSoundWare_9 : decode cX2_hasSoundWare 9 = .ok (.getfield 21, 3) := by decide +kernel
theorem dX2_hasSoundWare_12 : decode cX2_hasSoundWare 12 = .ok (.iload_n 1, 1) := by decide +kernel
theorem dX2_hasSoundWare_13 : decode cX2_hasSoundWare 13 = .ok (.iaload, 1) := by decide +kernel
theorem dX2_hasSoundWare_14 : decode cX2_hasSoundWare 14 = .ok (.aload_n 0, 1) := by decide +kernel
theorem dX2_hasSoundWare_15 : decode cX2_hasSoundWare 15 = .ok (.getfield 27, 3) := by decide +kernel
theorem dX2_hasSoundWare_18 : decode cX2_hasSoundWare 18 = .ok (.aload_n 0, 1) := by decide +kernel
theorem dX2_hasSoundWare_19 : decode cX2_hasSoundWare 19 = .ok (.getfield 18, 3) := by decide +kernel
theorem dX2_hasSoundWare_22 : decode cX2_hasSoundWare 22 = .ok (.iload_n 1, 1) := by decide +kernel
theorem dX2_hasSoundWare_23 : decode cX2_hasSoundWare 23 = .ok (.iaload, 1) := by decide +kernel
theorem dX2_hasSoundWare_24 : decode cX2_hasSoundWare 24 = .ok (.iaload, 1) := by decide +kernel
theorem dX2_hasSoundWare_25 : decode cX2_hasSoundWare 25 = .ok (.if_icmp .ge 7, 3) := by decide +kernel
theorem dX2_hasSoundWare_28 : decode cX2_hasSoundWare 28 = .ok (.iconst 1, 1) := by decide +kernel
theorem dX2_hasSoundWare_29 : decode cX2_hasSoundWare 29 = .ok (.goto 4, 3) := by decide +kernel
theorem dX2_hasSoundWare_32 : decode cX2_hasSoundWare 32 = .ok (.iconst 0, 1) := by decide +kernel
theorem dX2_hasSoundWare_33 : decode cX2_hasSoundWare 33 = .ok (.ireturn, 1) := by decide +kernel
theorem dX2_daysLeft_0 : decode cX2_daysLeft 0 = .ok (.aload_n 0, 1) := by decide +kernel
theorem dX2_daysLeft_1 : decode cX2_daysLeft 1 = .ok (.iload_n 1, 1) := by decide +kernel
theorem dX2_daysLeft_2 : decode cX2_daysLeft 2 = .ok (.invokevirtual 93, 3) := by decide +kernel
theorem dX2_daysLeft_5 : decode cX2_daysLeft 5 = .ok (.ifCond .eq 24, 3) := by decide +kernel
theorem dX2_daysLeft_8 : decode cX2_daysLeft 8 = .ok (.aload_n 0, 1) := by decide +kernel
theorem dX2_daysLeft_9 : decode cX2_daysLeft 9 = .ok (.getfield 27, 3) := by decide +kernel
theorem dX2_daysLeft_12 : decode cX2_daysLeft 12 = .ok (.aload_n 0, 1) := by decide +kernel
theorem dX2_daysLeft_13 : decode cX2_daysLeft 13 = .ok (.getfield 18, 3) := by decide +kernel
theorem dX2_daysLeft_16 : decode cX2_daysLeft 16 = .ok (.iload_n 1, 1) := by decide +kernel
theorem dX2_daysLeft_17 : decode cX2_daysLeft 17 = .ok (.iaload, 1) := by decide +kernel
theorem dX2_daysLeft_18 : decode cX2_daysLeft 18 = .ok (.iaload, 1) := by decide +kernel
theorem dX2_daysLeft_19 : decode cX2_daysLeft 19 = .ok (.aload_n 0, 1) := by decide +kernel
theorem dX2_daysLeft_20 : decode cX2_daysLeft 20 = .ok (.getfield 21, 3) := by decide +kernel
theorem dX2_daysLeft_23 : decode cX2_daysLeft 23 = .ok (.iload_n 1, 1) := by decide +kernel
theorem dX2_daysLeft_24 : decode cX2_daysLeft 24 = .ok (.iaload, 1) := by decide +kernel
theorem dX2_daysLeft_25 : decode cX2_daysLeft 25 = .ok (.isub, 1) := by decide +kernel
theorem dX2_daysLeft_26 : decode cX2_daysLeft 26 = .ok (.goto 4, 3) := by decide +kernel
theorem dX2_daysLeft_29 : decode cX2_daysLeft 29 = .ok (.iconst 0, 1) := by decide +kernel
theorem dX2_daysLeft_30 : decode cX2_daysLeft 30 = .ok (.ireturn, 1) := by decide +kernel
theorem dX2_wantsWareOf_0 : decode cX2_wantsWareOf 0 = .ok (.aload_n 0, 1) := by decide +kernel
theorem dX2_wantsWareOf_1 : decode cX2_wantsWareOf 1 = .ok (.iload_n 2, 1) := by decide +kernel
theorem dX2_wantsWareOf_2 : decode cX2_wantsWareOf 2 = .ok (.invokevirtual 90, 3) := by decide +kernel
theorem dX2_wantsWareOf_5 : decode cX2_wantsWareOf 5 = .ok (.ifCond .eq 33, 3) := by decide +kernel
theorem dX2_wantsWareOf_8 : decode cX2_wantsWareOf 8 = .ok (.aload_n 0, 1) := by decide +kernel
theorem dX2_wantsWareOf_9 : decode cX2_wantsWareOf 9 = .ok (.iload_n 1, 1) := by decide +kernel
theorem dX2_wantsWareOf_10 : decode cX2_wantsWareOf 10 = .ok (.invokevirtual 79, 3) := by decide +kernel
theorem dX2_wantsWareOf_13 : decode cX2_wantsWareOf 13 = .ok (.ifCond .eq 25, 3) := by decide +kernel
theorem dX2_wantsWareOf_16 : decode cX2_wantsWareOf 16 = .ok (.aload_n 0, 1) := by decide +kernel
theorem dX2_wantsWareOf_17 : decode cX2_wantsWareOf 17 = .ok (.getfield 15, 3) := by decide +kernel
theorem dX2_wantsWareOf_20 : decode cX2_wantsWareOf 20 = .ok (.iload_n 1, 1) := by decide +kernel
theorem dX2_wantsWareOf_21 : decode cX2_wantsWareOf 21 = .ok (.iaload, 1) := by decide +kernel
theorem dX2_wantsWareOf_22 : decode cX2_wantsWareOf 22 = .ok (.aload_n 0, 1) := by decide +kernel
theorem dX2_wantsWareOf_23 : decode cX2_wantsWareOf 23 = .ok (.getfield 18, 3) := by decide +kernel
theorem dX2_wantsWareOf_26 : decode cX2_wantsWareOf 26 = .ok (.iload_n 2, 1) := by decide +kernel
theorem dX2_wantsWareOf_27 : decode cX2_wantsWareOf 27 = .ok (.iaload, 1) := by decide +kernel
theorem dX2_wantsWareOf_28 : decode cX2_wantsWareOf 28 = .ok (.invokestatic 96, 3) := by decide +kernel
theorem dX2_wantsWareOf_31 : decode cX2_wantsWareOf 31 = .ok (.ifCond .eq 7, 3) := by decide +kernel
theorem dX2_wantsWareOf_34 : decode cX2_wantsWareOf 34 = .ok (.iconst 1, 1) := by decide +kernel
theorem dX2_wantsWareOf_35 : decode cX2_wantsWareOf 35 = .ok (.goto 4, 3) := by decide +kernel
theorem dX2_wantsWareOf_38 : decode cX2_wantsWareOf 38 = .ok (.iconst 0, 1) := by decide +kernel
theorem dX2_wantsWareOf_39 : decode cX2_wantsWareOf 39 = .ok (.ireturn, 1) := by decide +kernel
theorem dX2_canTake_0 : decode cX2_canTake 0 = .ok (.iload_n 1, 1) := by decide +kernel
theorem dX2_canTake_1 : decode cX2_canTake 1 = .ok (.iload_n 2, 1) := by decide +kernel
theorem dX2_canTake_2 : decode cX2_canTake 2 = .ok (.if_icmp .eq 48, 3) := by decide +kernel
theorem dX2_canTake_5 : decode cX2_canTake 5 = .ok (.iload_n 1, 1) := by decide +kernel
theorem dX2_canTake_6 : decode cX2_canTake 6 = .ok (.aload_n 0, 1) := by decide +kernel
theorem dX2_canTake_7 : decode cX2_canTake 7 = .ok (.getfield 40, 3) := by decide +kernel
theorem dX2_canTake_10 : decode cX2_canTake 10 = .ok (.if_icmp .eq 40, 3) := by decide +kernel
theorem dX2_canTake_13 : decode cX2_canTake 13 = .ok (.iload_n 2, 1) := by decide +kernel
theorem dX2_canTake_14 : decode cX2_canTake 14 = .ok (.aload_n 0, 1) := by decide +kernel
theorem dX2_canTake_15 : decode cX2_canTake 15 = .ok (.getfield 40, 3) := by decide +kernel
theorem dX2_canTake_18 : decode cX2_canTake 18 = .ok (.if_icmp .eq 32, 3) := by decide +kernel
theorem dX2_canTake_21 : decode cX2_canTake 21 = .ok (.aload_n 0, 1) := by decide +kernel
theorem dX2_canTake_22 : decode cX2_canTake 22 = .ok (.iload_n 1, 1) := by decide +kernel
theorem dX2_canTake_23 : decode cX2_canTake 23 = .ok (.invokevirtual 93, 3) := by decide +kernel
theorem dX2_canTake_26 : decode cX2_canTake 26 = .ok (.ifCond .eq 24, 3) := by decide +kernel
theorem dX2_canTake_29 : decode cX2_canTake 29 = .ok (.aload_n 0, 1) := by decide +kernel
theorem dX2_canTake_30 : decode cX2_canTake 30 = .ok (.iload_n 2, 1) := by decide +kernel
theorem dX2_canTake_31 : decode cX2_canTake 31 = .ok (.invokevirtual 93, 3) := by decide +kernel
theorem dX2_canTake_34 : decode cX2_canTake 34 = .ok (.ifCond .eq 16, 3) := by decide +kernel
theorem dX2_canTake_37 : decode cX2_canTake 37 = .ok (.aload_n 0, 1) := by decide +kernel
theorem dX2_canTake_38 : decode cX2_canTake 38 = .ok (.iload_n 1, 1) := by decide +kernel
theorem dX2_canTake_39 : decode cX2_canTake 39 = .ok (.iload_n 2, 1) := by decide +kernel
theorem dX2_canTake_40 : decode cX2_canTake 40 = .ok (.invokevirtual 100, 3) := by decide +kernel
theorem dX2_canTake_43 : decode cX2_canTake 43 = .ok (.ifCond .eq 7, 3) := by decide +kernel
theorem dX2_canTake_46 : decode cX2_canTake 46 = .ok (.iconst 1, 1) := by decide +kernel
theorem dX2_canTake_47 : decode cX2_canTake 47 = .ok (.goto 4, 3) := by decide +kernel
theorem dX2_canTake_50 : decode cX2_canTake 50 = .ok (.iconst 0, 1) := by decide +kernel
theorem dX2_canTake_51 : decode cX2_canTake 51 = .ok (.ireturn, 1) := by decide +kernel
theorem dX2_giversOf_0 : decode cX2_giversOf 0 = .ok (.iconst 0, 1) := by decide +kernel
theorem dX2_giversOf_1 : decode cX2_giversOf 1 = .ok (.istore_n 2, 1) := by decide +kernel
theorem dX2_giversOf_2 : decode cX2_giversOf 2 = .ok (.iconst 0, 1) := by decide +kernel
theorem dX2_giversOf_3 : decode cX2_giversOf 3 = .ok (.istore_n 3, 1) := by decide +kernel
theorem dX2_giversOf_4 : decode cX2_giversOf 4 = .ok (.iload_n 3, 1) := by decide +kernel
theorem dX2_giversOf_5 : decode cX2_giversOf 5 = .ok (.aload_n 0, 1) := by decide +kernel
theorem dX2_giversOf_6 : decode cX2_giversOf 6 = .ok (.getfield 61, 3) := by decide +kernel
theorem dX2_giversOf_9 : decode cX2_giversOf 9 = .ok (.if_icmp .ge 24, 3) := by decide +kernel
theorem dX2_giversOf_12 : decode cX2_giversOf 12 = .ok (.aload_n 0, 1) := by decide +kernel
theorem dX2_giversOf_13 : decode cX2_giversOf 13 = .ok (.iload_n 1, 1) := by decide +kernel
theorem dX2_giversOf_14 : decode cX2_giversOf 14 = .ok (.iload_n 3, 1) := by decide +kernel
theorem dX2_giversOf_15 : decode cX2_giversOf 15 = .ok (.invokevirtual 103, 3) := by decide +kernel
theorem dX2_giversOf_18 : decode cX2_giversOf 18 = .ok (.ifCond .eq 9, 3) := by decide +kernel
theorem dX2_giversOf_21 : decode cX2_giversOf 21 = .ok (.iload_n 2, 1) := by decide +kernel
theorem dX2_giversOf_22 : decode cX2_giversOf 22 = .ok (.iload_n 3, 1) := by decide +kernel
theorem dX2_giversOf_23 : decode cX2_giversOf 23 = .ok (.invokestatic 106, 3) := by decide +kernel
theorem dX2_giversOf_26 : decode cX2_giversOf 26 = .ok (.istore_n 2, 1) := by decide +kernel
theorem dX2_giversOf_27 : decode cX2_giversOf 27 = .ok (.iinc 3 1, 3) := by decide +kernel
theorem dX2_giversOf_30 : decode cX2_giversOf 30 = .ok (.goto (-26), 3) := by decide +kernel
theorem dX2_giversOf_33 : decode cX2_giversOf 33 = .ok (.iload_n 2, 1) := by decide +kernel
theorem dX2_giversOf_34 : decode cX2_giversOf 34 = .ok (.ireturn, 1) := by decide +kernel
theorem dX2_numberOfTakers_0 : decode cX2_numberOfTakers 0 = .ok (.iconst 0, 1) := by decide +kernel
theorem dX2_numberOfTakers_1 : decode cX2_numberOfTakers 1 = .ok (.istore_n 2, 1) := by decide +kernel
theorem dX2_numberOfTakers_2 : decode cX2_numberOfTakers 2 = .ok (.iconst 0, 1) := by decide +kernel
theorem dX2_numberOfTakers_3 : decode cX2_numberOfTakers 3 = .ok (.istore_n 3, 1) := by decide +kernel
theorem dX2_numberOfTakers_4 : decode cX2_numberOfTakers 4 = .ok (.iload_n 3, 1) := by decide +kernel
theorem dX2_numberOfTakers_5 : decode cX2_numberOfTakers 5 = .ok (.aload_n 0, 1) := by decide +kernel
theorem dX2_numberOfTakers_6 : decode cX2_numberOfTakers 6 = .ok (.getfield 61, 3) := by decide +kernel
theorem dX2_numberOfTakers_9 : decode cX2_numberOfTakers 9 = .ok (.if_icmp .ge 21, 3) := by decide +kernel
theorem dX2_numberOfTakers_12 : decode cX2_numberOfTakers 12 = .ok (.aload_n 0, 1) := by decide +kernel
theorem dX2_numberOfTakers_13 : decode cX2_numberOfTakers 13 = .ok (.iload_n 3, 1) := by decide +kernel
theorem dX2_numberOfTakers_14 : decode cX2_numberOfTakers 14 = .ok (.iload_n 1, 1) := by decide +kernel
theorem dX2_numberOfTakers_15 : decode cX2_numberOfTakers 15 = .ok (.invokevirtual 103, 3) := by decide +kernel
theorem dX2_numberOfTakers_18 : decode cX2_numberOfTakers 18 = .ok (.ifCond .eq 6, 3) := by decide +kernel
theorem dX2_numberOfTakers_21 : decode cX2_numberOfTakers 21 = .ok (.iinc 2 1, 3) := by decide +kernel
theorem dX2_numberOfTakers_24 : decode cX2_numberOfTakers 24 = .ok (.iinc 3 1, 3) := by decide +kernel
theorem dX2_numberOfTakers_27 : decode cX2_numberOfTakers 27 = .ok (.goto (-23), 3) := by decide +kernel
theorem dX2_numberOfTakers_30 : decode cX2_numberOfTakers 30 = .ok (.iload_n 2, 1) := by decide +kernel
theorem dX2_numberOfTakers_31 : decode cX2_numberOfTakers 31 = .ok (.ireturn, 1) := by decide +kernel
theorem dX2_refusal_0 : decode cX2_refusal 0 = .ok (.iload_n 1, 1) := by decide +kernel
theorem dX2_refusal_1 : decode cX2_refusal 1 = .ok (.aload_n 0, 1) := by decide +kernel
theorem dX2_refusal_2 : decode cX2_refusal 2 = .ok (.getfield 40, 3) := by decide +kernel
theorem dX2_refusal_5 : decode cX2_refusal 5 = .ok (.if_icmp .eq 11, 3) := by decide +kernel
theorem dX2_refusal_8 : decode cX2_refusal 8 = .ok (.iload_n 2, 1) := by decide +kernel
theorem dX2_refusal_9 : decode cX2_refusal 9 = .ok (.aload_n 0, 1) := by decide +kernel
theorem dX2_refusal_10 : decode cX2_refusal 10 = .ok (.getfield 40, 3) := by decide +kernel
theorem dX2_refusal_13 : decode cX2_refusal 13 = .ok (.if_icmp .ne 5, 3) := by decide +kernel
theorem dX2_refusal_16 : decode cX2_refusal 16 = .ok (.iconst 1, 1) := by decide +kernel
theorem dX2_refusal_17 : decode cX2_refusal 17 = .ok (.ireturn, 1) := by decide +kernel
theorem dX2_refusal_18 : decode cX2_refusal 18 = .ok (.aload_n 0, 1) := by decide +kernel
theorem dX2_refusal_19 : decode cX2_refusal 19 = .ok (.iload_n 1, 1) := by decide +kernel
theorem dX2_refusal_20 : decode cX2_refusal 20 = .ok (.invokevirtual 93, 3) := by decide +kernel
theorem dX2_refusal_23 : decode cX2_refusal 23 = .ok (.ifCond .eq 11, 3) := by decide +kernel
theorem dX2_refusal_26 : decode cX2_refusal 26 = .ok (.aload_n 0, 1) := by decide +kernel
theorem dX2_refusal_27 : decode cX2_refusal 27 = .ok (.iload_n 2, 1) := by decide +kernel
theorem dX2_refusal_28 : decode cX2_refusal 28 = .ok (.invokevirtual 93, 3) := by decide +kernel
theorem dX2_refusal_31 : decode cX2_refusal 31 = .ok (.ifCond .ne 5, 3) := by decide +kernel
theorem dX2_refusal_34 : decode cX2_refusal 34 = .ok (.iconst 2, 1) := by decide +kernel
theorem dX2_refusal_35 : decode cX2_refusal 35 = .ok (.ireturn, 1) := by decide +kernel
theorem dX2_refusal_36 : decode cX2_refusal 36 = .ok (.aload_n 0, 1) := by decide +kernel
theorem dX2_refusal_37 : decode cX2_refusal 37 = .ok (.iload_n 1, 1) := by decide +kernel
theorem dX2_refusal_38 : decode cX2_refusal 38 = .ok (.iload_n 2, 1) := by decide +kernel
theorem dX2_refusal_39 : decode cX2_refusal 39 = .ok (.invokevirtual 100, 3) := by decide +kernel
theorem dX2_refusal_42 : decode cX2_refusal 42 = .ok (.ifCond .ne 5, 3) := by decide +kernel
theorem dX2_refusal_45 : decode cX2_refusal 45 = .ok (.iconst 3, 1) := by decide +kernel
theorem dX2_refusal_46 : decode cX2_refusal 46 = .ok (.ireturn, 1) := by decide +kernel
theorem dX2_refusal_47 : decode cX2_refusal 47 = .ok (.aload_n 0, 1) := by decide +kernel
theorem dX2_refusal_48 : decode cX2_refusal 48 = .ok (.iload_n 2, 1) := by decide +kernel
theorem dX2_refusal_49 : decode cX2_refusal 49 = .ok (.iload_n 1, 1) := by decide +kernel
theorem dX2_refusal_50 : decode cX2_refusal 50 = .ok (.invokevirtual 100, 3) := by decide +kernel
theorem dX2_refusal_53 : decode cX2_refusal 53 = .ok (.ifCond .eq 7, 3) := by decide +kernel
theorem dX2_refusal_56 : decode cX2_refusal 56 = .ok (.iconst 0, 1) := by decide +kernel
theorem dX2_refusal_57 : decode cX2_refusal 57 = .ok (.goto 4, 3) := by decide +kernel
theorem dX2_refusal_60 : decode cX2_refusal 60 = .ok (.iconst 4, 1) := by decide +kernel
theorem dX2_refusal_61 : decode cX2_refusal 61 = .ok (.ireturn, 1) := by decide +kernel
theorem dX2_barterByHand_0 : decode cX2_barterByHand 0 = .ok (.aload_n 0, 1) := by decide +kernel
theorem dX2_barterByHand_1 : decode cX2_barterByHand 1 = .ok (.iload_n 1, 1) := by decide +kernel
theorem dX2_barterByHand_2 : decode cX2_barterByHand 2 = .ok (.iload_n 2, 1) := by decide +kernel
theorem dX2_barterByHand_3 : decode cX2_barterByHand 3 = .ok (.invokevirtual 110, 3) := by decide +kernel
theorem dX2_barterByHand_6 : decode cX2_barterByHand 6 = .ok (.istore_n 3, 1) := by decide +kernel
theorem dX2_barterByHand_7 : decode cX2_barterByHand 7 = .ok (.iload_n 3, 1) := by decide +kernel
theorem dX2_barterByHand_8 : decode cX2_barterByHand 8 = .ok (.ifCond .eq 15, 3) := by decide +kernel
theorem dX2_barterByHand_11 : decode cX2_barterByHand 11 = .ok (.aload_n 0, 1) := by decide +kernel
theorem dX2_barterByHand_12 : decode cX2_barterByHand 12 = .ok (.dup, 1) := by decide +kernel
theorem dX2_barterByHand_13 : decode cX2_barterByHand 13 = .ok (.getfield 76, 3) := by decide +kernel
theorem dX2_barterByHand_16 : decode cX2_barterByHand 16 = .ok (.iconst 1, 1) := by decide +kernel
theorem dX2_barterByHand_17 : decode cX2_barterByHand 17 = .ok (.iadd, 1) := by decide +kernel
theorem dX2_barterByHand_18 : decode cX2_barterByHand 18 = .ok (.putfield 76, 3) := by decide +kernel
theorem dX2_barterByHand_21 : decode cX2_barterByHand 21 = .ok (.iload_n 3, 1) := by decide +kernel
theorem dX2_barterByHand_22 : decode cX2_barterByHand 22 = .ok (.ireturn, 1) := by decide +kernel
theorem dX2_barterByHand_23 : decode cX2_barterByHand 23 = .ok (.aload_n 0, 1) := by decide +kernel
theorem dX2_barterByHand_24 : decode cX2_barterByHand 24 = .ok (.invokevirtual 113, 3) := by decide +kernel
theorem dX2_barterByHand_27 : decode cX2_barterByHand 27 = .ok (.aload_n 0, 1) := by decide +kernel
theorem dX2_barterByHand_28 : decode cX2_barterByHand 28 = .ok (.iload_n 1, 1) := by decide +kernel
theorem dX2_barterByHand_29 : decode cX2_barterByHand 29 = .ok (.iload_n 2, 1) := by decide +kernel
theorem dX2_barterByHand_30 : decode cX2_barterByHand 30 = .ok (.invokevirtual 116, 3) := by decide +kernel
theorem dX2_barterByHand_33 : decode cX2_barterByHand 33 = .ok (.aload_n 0, 1) := by decide +kernel
theorem dX2_barterByHand_34 : decode cX2_barterByHand 34 = .ok (.iload_n 2, 1) := by decide +kernel
theorem dX2_barterByHand_35 : decode cX2_barterByHand 35 = .ok (.iload_n 1, 1) := by decide +kernel
theorem dX2_barterByHand_36 : decode cX2_barterByHand 36 = .ok (.invokevirtual 116, 3) := by decide +kernel
theorem dX2_barterByHand_39 : decode cX2_barterByHand 39 = .ok (.bipush 10, 2) := by decide +kernel
theorem dX2_barterByHand_41 : decode cX2_barterByHand 41 = .ok (.ireturn, 1) := by decide +kernel
theorem dX2_doBarter_0 : decode cX2_doBarter 0 = .ok (.aload_n 0, 1) := by decide +kernel
theorem dX2_doBarter_1 : decode cX2_doBarter 1 = .ok (.invokevirtual 113, 3) := by decide +kernel
theorem dX2_doBarter_4 : decode cX2_doBarter 4 = .ok (.iconst 0, 1) := by decide +kernel
theorem dX2_doBarter_5 : decode cX2_doBarter 5 = .ok (.istore_n 2, 1) := by decide +kernel
theorem dX2_doBarter_6 : decode cX2_doBarter 6 = .ok (.iload_n 2, 1) := by decide +kernel
theorem dX2_doBarter_7 : decode cX2_doBarter 7 = .ok (.aload_n 0, 1) := by decide +kernel
theorem dX2_doBarter_8 : decode cX2_doBarter 8 = .ok (.getfield 61, 3) := by decide +kernel
theorem dX2_doBarter_11 : decode cX2_doBarter 11 = .ok (.if_icmp .ge 23, 3) := by decide +kernel
theorem dX2_doBarter_14 : decode cX2_doBarter 14 = .ok (.iload_n 2, 1) := by decide +kernel
theorem dX2_doBarter_15 : decode cX2_doBarter 15 = .ok (.aload_n 1, 1) := by decide +kernel
theorem dX2_doBarter_16 : decode cX2_doBarter 16 = .ok (.arraylength, 1) := by decide +kernel
theorem dX2_doBarter_17 : decode cX2_doBarter 17 = .ok (.if_icmp .ge 17, 3) := by decide +kernel
theorem dX2_doBarter_20 : decode cX2_doBarter 20 = .ok (.aload_n 0, 1) := by decide +kernel
theorem dX2_doBarter_21 : decode cX2_doBarter 21 = .ok (.iload_n 2, 1) := by decide +kernel
theorem dX2_doBarter_22 : decode cX2_doBarter 22 = .ok (.aload_n 1, 1) := by decide +kernel
theorem dX2_doBarter_23 : decode cX2_doBarter 23 = .ok (.iload_n 2, 1) := by decide +kernel
theorem dX2_doBarter_24 : decode cX2_doBarter 24 = .ok (.iaload, 1) := by decide +kernel
theorem dX2_doBarter_25 : decode cX2_doBarter 25 = .ok (.invokevirtual 116, 3) := by decide +kernel
theorem dX2_doBarter_28 : decode cX2_doBarter 28 = .ok (.iinc 2 1, 3) := by decide +kernel
theorem dX2_doBarter_31 : decode cX2_doBarter 31 = .ok (.goto (-25), 3) := by decide +kernel
theorem dX2_doBarter_34 : decode cX2_doBarter 34 = .ok (.return_, 1) := by decide +kernel
theorem dX2_keepWares_0 : decode cX2_keepWares 0 = .ok (.aload_n 0, 1) := by decide +kernel
theorem dX2_keepWares_1 : decode cX2_keepWares 1 = .ok (.getfield 18, 3) := by decide +kernel
theorem dX2_keepWares_4 : decode cX2_keepWares 4 = .ok (.iconst 0, 1) := by decide +kernel
theorem dX2_keepWares_5 : decode cX2_keepWares 5 = .ok (.aload_n 0, 1) := by decide +kernel
theorem dX2_keepWares_6 : decode cX2_keepWares 6 = .ok (.getfield 43, 3) := by decide +kernel
theorem dX2_keepWares_9 : decode cX2_keepWares 9 = .ok (.iconst 0, 1) := by decide +kernel
theorem dX2_keepWares_10 : decode cX2_keepWares 10 = .ok (.bipush 7, 2) := by decide +kernel
theorem dX2_keepWares_12 : decode cX2_keepWares 12 = .ok (.invokestatic 55, 3) := by decide +kernel
theorem dX2_keepWares_15 : decode cX2_keepWares 15 = .ok (.aload_n 0, 1) := by decide +kernel
theorem dX2_keepWares_16 : decode cX2_keepWares 16 = .ok (.getfield 21, 3) := by decide +kernel
theorem dX2_keepWares_19 : decode cX2_keepWares 19 = .ok (.iconst 0, 1) := by decide +kernel
theorem dX2_keepWares_20 : decode cX2_keepWares 20 = .ok (.aload_n 0, 1) := by decide +kernel
theorem dX2_keepWares_21 : decode cX2_keepWares 21 = .ok (.getfield 46, 3) := by decide +kernel
theorem dX2_keepWares_24 : decode cX2_keepWares 24 = .ok (.iconst 0, 1) := by decide +kernel
theorem dX2_keepWares_25 : decode cX2_keepWares 25 = .ok (.bipush 7, 2) := by decide +kernel
theorem dX2_keepWares_27 : decode cX2_keepWares 27 = .ok (.invokestatic 55, 3) := by decide +kernel
theorem dX2_keepWares_30 : decode cX2_keepWares 30 = .ok (.return_, 1) := by decide +kernel
theorem dX2_takeWare_0 : decode cX2_takeWare 0 = .ok (.aload_n 0, 1) := by decide +kernel
theorem dX2_takeWare_1 : decode cX2_takeWare 1 = .ok (.iload_n 1, 1) := by decide +kernel
theorem dX2_takeWare_2 : decode cX2_takeWare 2 = .ok (.invokevirtual 79, 3) := by decide +kernel
theorem dX2_takeWare_5 : decode cX2_takeWare 5 = .ok (.ifCond .eq 23, 3) := by decide +kernel
theorem dX2_takeWare_8 : decode cX2_takeWare 8 = .ok (.aload_n 0, 1) := by decide +kernel
theorem dX2_takeWare_9 : decode cX2_takeWare 9 = .ok (.iload_n 2, 1) := by decide +kernel
theorem dX2_takeWare_10 : decode cX2_takeWare 10 = .ok (.invokevirtual 79, 3) := by decide +kernel
theorem dX2_takeWare_13 : decode cX2_takeWare 13 = .ok (.ifCond .eq 15, 3) := by decide +kernel
theorem dX2_takeWare_16 : decode cX2_takeWare 16 = .ok (.aload_n 0, 1) := by decide +kernel
theorem dX2_takeWare_17 : decode cX2_takeWare 17 = .ok (.getfield 43, 3) := by decide +kernel
theorem dX2_takeWare_20 : decode cX2_takeWare 20 = .ok (.iload_n 2, 1) := by decide +kernel
theorem dX2_takeWare_21 : decode cX2_takeWare 21 = .ok (.iaload, 1) := by decide +kernel
theorem dX2_takeWare_22 : decode cX2_takeWare 22 = .ok (.invokestatic 87, 3) := by decide +kernel
theorem dX2_takeWare_25 : decode cX2_takeWare 25 = .ok (.ifCond .ne 4, 3) := by decide +kernel
theorem dX2_takeWare_28 : decode cX2_takeWare 28 = .ok (.return_, 1) := by decide +kernel
theorem dX2_takeWare_29 : decode cX2_takeWare 29 = .ok (.aload_n 0, 1) := by decide +kernel
theorem dX2_takeWare_30 : decode cX2_takeWare 30 = .ok (.getfield 43, 3) := by decide +kernel
theorem dX2_takeWare_33 : decode cX2_takeWare 33 = .ok (.iload_n 2, 1) := by decide +kernel
theorem dX2_takeWare_34 : decode cX2_takeWare 34 = .ok (.iaload, 1) := by decide +kernel
theorem dX2_takeWare_35 : decode cX2_takeWare 35 = .ok (.istore_n 3, 1) := by decide +kernel
theorem dX2_takeWare_36 : decode cX2_takeWare 36 = .ok (.aload_n 0, 1) := by decide +kernel
theorem dX2_takeWare_37 : decode cX2_takeWare 37 = .ok (.getfield 18, 3) := by decide +kernel
theorem dX2_takeWare_40 : decode cX2_takeWare 40 = .ok (.iload_n 1, 1) := by decide +kernel
theorem dX2_takeWare_41 : decode cX2_takeWare 41 = .ok (.iload_n 3, 1) := by decide +kernel
theorem dX2_takeWare_42 : decode cX2_takeWare 42 = .ok (.iastore, 1) := by decide +kernel
theorem dX2_takeWare_43 : decode cX2_takeWare 43 = .ok (.aload_n 0, 1) := by decide +kernel
theorem dX2_takeWare_44 : decode cX2_takeWare 44 = .ok (.getfield 21, 3) := by decide +kernel
theorem dX2_takeWare_47 : decode cX2_takeWare 47 = .ok (.iload_n 1, 1) := by decide +kernel
theorem dX2_takeWare_48 : decode cX2_takeWare 48 = .ok (.aload_n 0, 1) := by decide +kernel
theorem dX2_takeWare_49 : decode cX2_takeWare 49 = .ok (.getfield 46, 3) := by decide +kernel
theorem dX2_takeWare_52 : decode cX2_takeWare 52 = .ok (.iload_n 2, 1) := by decide +kernel
theorem dX2_takeWare_53 : decode cX2_takeWare 53 = .ok (.iaload, 1) := by decide +kernel
theorem dX2_takeWare_54 : decode cX2_takeWare 54 = .ok (.iastore, 1) := by decide +kernel
theorem dX2_takeWare_55 : decode cX2_takeWare 55 = .ok (.aload_n 0, 1) := by decide +kernel
theorem dX2_takeWare_56 : decode cX2_takeWare 56 = .ok (.getfield 15, 3) := by decide +kernel
theorem dX2_takeWare_59 : decode cX2_takeWare 59 = .ok (.iload_n 1, 1) := by decide +kernel
theorem dX2_takeWare_60 : decode cX2_takeWare 60 = .ok (.dup2, 1) := by decide +kernel
theorem dX2_takeWare_61 : decode cX2_takeWare 61 = .ok (.iaload, 1) := by decide +kernel
theorem dX2_takeWare_62 : decode cX2_takeWare 62 = .ok (.iconst 1, 1) := by decide +kernel
theorem dX2_takeWare_63 : decode cX2_takeWare 63 = .ok (.iload_n 3, 1) := by decide +kernel
theorem dX2_takeWare_64 : decode cX2_takeWare 64 = .ok (.ishl, 1) := by decide +kernel
theorem dX2_takeWare_65 : decode cX2_takeWare 65 = .ok (.iconst (-1), 1) := by decide +kernel
theorem dX2_takeWare_66 : decode cX2_takeWare 66 = .ok (.ixor, 1) := by decide +kernel
theorem dX2_takeWare_67 : decode cX2_takeWare 67 = .ok (.iand, 1) := by decide +kernel
theorem dX2_takeWare_68 : decode cX2_takeWare 68 = .ok (.iastore, 1) := by decide +kernel
theorem dX2_takeWare_69 : decode cX2_takeWare 69 = .ok (.aload_n 0, 1) := by decide +kernel
theorem dX2_takeWare_70 : decode cX2_takeWare 70 = .ok (.getfield 24, 3) := by decide +kernel
theorem dX2_takeWare_73 : decode cX2_takeWare 73 = .ok (.iload_n 1, 1) := by decide +kernel
theorem dX2_takeWare_74 : decode cX2_takeWare 74 = .ok (.dup2, 1) := by decide +kernel
theorem dX2_takeWare_75 : decode cX2_takeWare 75 = .ok (.iaload, 1) := by decide +kernel
theorem dX2_takeWare_76 : decode cX2_takeWare 76 = .ok (.iconst 1, 1) := by decide +kernel
theorem dX2_takeWare_77 : decode cX2_takeWare 77 = .ok (.iadd, 1) := by decide +kernel
theorem dX2_takeWare_78 : decode cX2_takeWare 78 = .ok (.iastore, 1) := by decide +kernel
theorem dX2_takeWare_79 : decode cX2_takeWare 79 = .ok (.aload_n 0, 1) := by decide +kernel
theorem dX2_takeWare_80 : decode cX2_takeWare 80 = .ok (.getfield 30, 3) := by decide +kernel
theorem dX2_takeWare_83 : decode cX2_takeWare 83 = .ok (.iload_n 3, 1) := by decide +kernel
theorem dX2_takeWare_84 : decode cX2_takeWare 84 = .ok (.dup2, 1) := by decide +kernel
theorem dX2_takeWare_85 : decode cX2_takeWare 85 = .ok (.iaload, 1) := by decide +kernel
theorem dX2_takeWare_86 : decode cX2_takeWare 86 = .ok (.iconst 1, 1) := by decide +kernel
theorem dX2_takeWare_87 : decode cX2_takeWare 87 = .ok (.iadd, 1) := by decide +kernel
theorem dX2_takeWare_88 : decode cX2_takeWare 88 = .ok (.iastore, 1) := by decide +kernel
theorem dX2_takeWare_89 : decode cX2_takeWare 89 = .ok (.return_, 1) := by decide +kernel
theorem dX2_passDay_0 : decode cX2_passDay 0 = .ok (.aload_n 0, 1) := by decide +kernel
theorem dX2_passDay_1 : decode cX2_passDay 1 = .ok (.getfield 67, 3) := by decide +kernel
theorem dX2_passDay_4 : decode cX2_passDay 4 = .ok (.istore_n 1, 1) := by decide +kernel
theorem dX2_passDay_5 : decode cX2_passDay 5 = .ok (.aload_n 0, 1) := by decide +kernel
theorem dX2_passDay_6 : decode cX2_passDay 6 = .ok (.dup, 1) := by decide +kernel
theorem dX2_passDay_7 : decode cX2_passDay 7 = .ok (.getfield 64, 3) := by decide +kernel
theorem dX2_passDay_10 : decode cX2_passDay 10 = .ok (.iconst 1, 1) := by decide +kernel
theorem dX2_passDay_11 : decode cX2_passDay 11 = .ok (.iadd, 1) := by decide +kernel
theorem dX2_passDay_12 : decode cX2_passDay 12 = .ok (.putfield 64, 3) := by decide +kernel
theorem dX2_passDay_15 : decode cX2_passDay 15 = .ok (.iconst 0, 1) := by decide +kernel
theorem dX2_passDay_16 : decode cX2_passDay 16 = .ok (.istore_n 2, 1) := by decide +kernel
theorem dX2_passDay_17 : decode cX2_passDay 17 = .ok (.iload_n 2, 1) := by decide +kernel
theorem dX2_passDay_18 : decode cX2_passDay 18 = .ok (.aload_n 0, 1) := by decide +kernel
theorem dX2_passDay_19 : decode cX2_passDay 19 = .ok (.getfield 61, 3) := by decide +kernel
theorem dX2_passDay_22 : decode cX2_passDay 22 = .ok (.if_icmp .ge 24, 3) := by decide +kernel
theorem dX2_passDay_25 : decode cX2_passDay 25 = .ok (.aload_n 0, 1) := by decide +kernel
theorem dX2_passDay_26 : decode cX2_passDay 26 = .ok (.getfield 21, 3) := by decide +kernel
theorem dX2_passDay_29 : decode cX2_passDay 29 = .ok (.iload_n 2, 1) := by decide +kernel
theorem dX2_passDay_30 : decode cX2_passDay 30 = .ok (.dup2, 1) := by decide +kernel
theorem dX2_passDay_31 : decode cX2_passDay 31 = .ok (.iaload, 1) := by decide +kernel
theorem dX2_passDay_32 : decode cX2_passDay 32 = .ok (.iconst 1, 1) := by decide +kernel
theorem dX2_passDay_33 : decode cX2_passDay 33 = .ok (.iadd, 1) := by decide +kernel
theorem dX2_passDay_34 : decode cX2_passDay 34 = .ok (.iastore, 1) := by decide +kernel
theorem dX2_passDay_35 : decode cX2_passDay 35 = .ok (.aload_n 0, 1) := by decide +kernel
theorem dX2_passDay_36 : decode cX2_passDay 36 = .ok (.iload_n 2, 1) := by decide +kernel
theorem dX2_passDay_37 : decode cX2_passDay 37 = .ok (.invokevirtual 120, 3) := by decide +kernel
theorem dX2_passDay_40 : decode cX2_passDay 40 = .ok (.iinc 2 1, 3) := by decide +kernel
theorem dX2_passDay_43 : decode cX2_passDay 43 = .ok (.goto (-26), 3) := by decide +kernel
theorem dX2_passDay_46 : decode cX2_passDay 46 = .ok (.aload_n 0, 1) := by decide +kernel
theorem dX2_passDay_47 : decode cX2_passDay 47 = .ok (.invokevirtual 123, 3) := by decide +kernel
theorem dX2_passDay_50 : decode cX2_passDay 50 = .ok (.aload_n 0, 1) := by decide +kernel
theorem dX2_passDay_51 : decode cX2_passDay 51 = .ok (.getfield 67, 3) := by decide +kernel
theorem dX2_passDay_54 : decode cX2_passDay 54 = .ok (.iload_n 1, 1) := by decide +kernel
theorem dX2_passDay_55 : decode cX2_passDay 55 = .ok (.isub, 1) := by decide +kernel
theorem dX2_passDay_56 : decode cX2_passDay 56 = .ok (.ireturn, 1) := by decide +kernel
theorem dX2_renewWare_0 : decode cX2_renewWare 0 = .ok (.aload_n 0, 1) := by decide +kernel
theorem dX2_renewWare_1 : decode cX2_renewWare 1 = .ok (.iload_n 1, 1) := by decide +kernel
theorem dX2_renewWare_2 : decode cX2_renewWare 2 = .ok (.invokevirtual 93, 3) := by decide +kernel
theorem dX2_renewWare_5 : decode cX2_renewWare 5 = .ok (.ifCond .eq 4, 3) := by decide +kernel
theorem dX2_renewWare_8 : decode cX2_renewWare 8 = .ok (.return_, 1) := by decide +kernel
theorem dX2_renewWare_9 : decode cX2_renewWare 9 = .ok (.aload_n 0, 1) := by decide +kernel
theorem dX2_renewWare_10 : decode cX2_renewWare 10 = .ok (.iload_n 1, 1) := by decide +kernel
theorem dX2_renewWare_11 : decode cX2_renewWare 11 = .ok (.invokevirtual 90, 3) := by decide +kernel
theorem dX2_renewWare_14 : decode cX2_renewWare 14 = .ok (.ifCond .eq 13, 3) := by decide +kernel
theorem dX2_renewWare_17 : decode cX2_renewWare 17 = .ok (.aload_n 0, 1) := by decide +kernel
theorem dX2_renewWare_18 : decode cX2_renewWare 18 = .ok (.dup, 1) := by decide +kernel
theorem dX2_renewWare_19 : decode cX2_renewWare 19 = .ok (.getfield 67, 3) := by decide +kernel
theorem dX2_renewWare_22 : decode cX2_renewWare 22 = .ok (.iconst 1, 1) := by decide +kernel
theorem dX2_renewWare_23 : decode cX2_renewWare 23 = .ok (.iadd, 1) := by decide +kernel
theorem dX2_renewWare_24 : decode cX2_renewWare 24 = .ok (.putfield 67, 3) := by decide +kernel
theorem dX2_renewWare_27 : decode cX2_renewWare 27 = .ok (.aload_n 0, 1) := by decide +kernel
theorem dX2_renewWare_28 : decode cX2_renewWare 28 = .ok (.iload_n 1, 1) := by decide +kernel
theorem dX2_renewWare_29 : decode cX2_renewWare 29 = .ok (.invokevirtual 83, 3) := by decide +kernel
theorem dX2_renewWare_32 : decode cX2_renewWare 32 = .ok (.return_, 1) := by decide +kernel
theorem dX2_drawLot_0 : decode cX2_drawLot 0 = .ok (.aload_n 0, 1) := by decide +kernel
theorem dX2_drawLot_1 : decode cX2_drawLot 1 = .ok (.sipush 421, 3) := by decide +kernel
theorem dX2_drawLot_4 : decode cX2_drawLot 4 = .ok (.aload_n 0, 1) := by decide +kernel
theorem dX2_drawLot_5 : decode cX2_drawLot 5 = .ok (.getfield 37, 3) := by decide +kernel
theorem dX2_drawLot_8 : decode cX2_drawLot 8 = .ok (.imul, 1) := by decide +kernel
theorem dX2_drawLot_9 : decode cX2_drawLot 9 = .ok (.sipush 1663, 3) := by decide +kernel
theorem dX2_drawLot_12 : decode cX2_drawLot 12 = .ok (.iadd, 1) := by decide +kernel
theorem dX2_drawLot_13 : decode cX2_drawLot 13 = .ok (.sipush 10000, 3) := by decide +kernel
theorem dX2_drawLot_16 : decode cX2_drawLot 16 = .ok (.irem, 1) := by decide +kernel
theorem dX2_drawLot_17 : decode cX2_drawLot 17 = .ok (.putfield 37, 3) := by decide +kernel
theorem dX2_drawLot_20 : decode cX2_drawLot 20 = .ok (.aload_n 0, 1) := by decide +kernel
theorem dX2_drawLot_21 : decode cX2_drawLot 21 = .ok (.getfield 61, 3) := by decide +kernel
theorem dX2_drawLot_24 : decode cX2_drawLot 24 = .ok (.iconst 1, 1) := by decide +kernel
theorem dX2_drawLot_25 : decode cX2_drawLot 25 = .ok (.iadd, 1) := by decide +kernel
theorem dX2_drawLot_26 : decode cX2_drawLot 26 = .ok (.istore_n 1, 1) := by decide +kernel
theorem dX2_drawLot_27 : decode cX2_drawLot 27 = .ok (.iload_n 1, 1) := by decide +kernel
theorem dX2_drawLot_28 : decode cX2_drawLot 28 = .ok (.ifCond .le 12, 3) := by decide +kernel
theorem dX2_drawLot_31 : decode cX2_drawLot 31 = .ok (.aload_n 0, 1) := by decide +kernel
theorem dX2_drawLot_32 : decode cX2_drawLot 32 = .ok (.getfield 37, 3) := by decide +kernel
theorem dX2_drawLot_35 : decode cX2_drawLot 35 = .ok (.iload_n 1, 1) := by decide +kernel
theorem dX2_drawLot_36 : decode cX2_drawLot 36 = .ok (.irem, 1) := by decide +kernel
theorem dX2_drawLot_37 : decode cX2_drawLot 37 = .ok (.goto 7, 3) := by decide +kernel
theorem dX2_drawLot_40 : decode cX2_drawLot 40 = .ok (.aload_n 0, 1) := by decide +kernel
theorem dX2_drawLot_41 : decode cX2_drawLot 41 = .ok (.getfield 61, 3) := by decide +kernel
theorem dX2_drawLot_44 : decode cX2_drawLot 44 = .ok (.istore_n 2, 1) := by decide +kernel
theorem dX2_drawLot_45 : decode cX2_drawLot 45 = .ok (.aload_n 0, 1) := by decide +kernel
theorem dX2_drawLot_46 : decode cX2_drawLot 46 = .ok (.aload_n 0, 1) := by decide +kernel
theorem dX2_drawLot_47 : decode cX2_drawLot 47 = .ok (.iload_n 2, 1) := by decide +kernel
theorem dX2_drawLot_48 : decode cX2_drawLot 48 = .ok (.invokevirtual 79, 3) := by decide +kernel
theorem dX2_drawLot_51 : decode cX2_drawLot 51 = .ok (.ifCond .eq 7, 3) := by decide +kernel
theorem dX2_drawLot_54 : decode cX2_drawLot 54 = .ok (.iload_n 2, 1) := by decide +kernel
theorem dX2_drawLot_55 : decode cX2_drawLot 55 = .ok (.goto 4, 3) := by decide +kernel
theorem dX2_drawLot_58 : decode cX2_drawLot 58 = .ok (.iconst (-1), 1) := by decide +kernel
theorem dX2_drawLot_59 : decode cX2_drawLot 59 = .ok (.putfield 40, 3) := by decide +kernel
theorem dX2_drawLot_62 : decode cX2_drawLot 62 = .ok (.return_, 1) := by decide +kernel
theorem dX2_needs_0 : decode cX2_needs 0 = .ok (.iconst 0, 1) := by decide +kernel
theorem dX2_needs_1 : decode cX2_needs 1 = .ok (.istore_n 1, 1) := by decide +kernel
theorem dX2_needs_2 : decode cX2_needs 2 = .ok (.iconst 0, 1) := by decide +kernel
theorem dX2_needs_3 : decode cX2_needs 3 = .ok (.istore_n 2, 1) := by decide +kernel
theorem dX2_needs_4 : decode cX2_needs 4 = .ok (.iload_n 2, 1) := by decide +kernel
theorem dX2_needs_5 : decode cX2_needs 5 = .ok (.aload_n 0, 1) := by decide +kernel
theorem dX2_needs_6 : decode cX2_needs 6 = .ok (.getfield 61, 3) := by decide +kernel
theorem dX2_needs_9 : decode cX2_needs 9 = .ok (.if_icmp .ge 21, 3) := by decide +kernel
theorem dX2_needs_12 : decode cX2_needs 12 = .ok (.iload_n 1, 1) := by decide +kernel
theorem dX2_needs_13 : decode cX2_needs 13 = .ok (.aload_n 0, 1) := by decide +kernel
theorem dX2_needs_14 : decode cX2_needs 14 = .ok (.getfield 15, 3) := by decide +kernel
theorem dX2_needs_17 : decode cX2_needs 17 = .ok (.iload_n 2, 1) := by decide +kernel
theorem dX2_needs_18 : decode cX2_needs 18 = .ok (.iaload, 1) := by decide +kernel
theorem dX2_needs_19 : decode cX2_needs 19 = .ok (.invokestatic 126, 3) := by decide +kernel
theorem dX2_needs_22 : decode cX2_needs 22 = .ok (.iadd, 1) := by decide +kernel
theorem dX2_needs_23 : decode cX2_needs 23 = .ok (.istore_n 1, 1) := by decide +kernel
theorem dX2_needs_24 : decode cX2_needs 24 = .ok (.iinc 2 1, 3) := by decide +kernel
theorem dX2_needs_27 : decode cX2_needs 27 = .ok (.goto (-23), 3) := by decide +kernel
theorem dX2_needs_30 : decode cX2_needs 30 = .ok (.iload_n 1, 1) := by decide +kernel
theorem dX2_needs_31 : decode cX2_needs 31 = .ok (.ireturn, 1) := by decide +kernel
theorem dX2_needsMet_0 : decode cX2_needsMet 0 = .ok (.iconst 0, 1) := by decide +kernel
theorem dX2_needsMet_1 : decode cX2_needsMet 1 = .ok (.istore_n 1, 1) := by decide +kernel
theorem dX2_needsMet_2 : decode cX2_needsMet 2 = .ok (.iconst 0, 1) := by decide +kernel
theorem dX2_needsMet_3 : decode cX2_needsMet 3 = .ok (.istore_n 2, 1) := by decide +kernel
theorem dX2_needsMet_4 : decode cX2_needsMet 4 = .ok (.iload_n 2, 1) := by decide +kernel
theorem dX2_needsMet_5 : decode cX2_needsMet 5 = .ok (.bipush 6, 2) := by decide +kernel
theorem dX2_needsMet_7 : decode cX2_needsMet 7 = .ok (.if_icmp .ge 18, 3) := by decide +kernel
theorem dX2_needsMet_10 : decode cX2_needsMet 10 = .ok (.iload_n 1, 1) := by decide +kernel
theorem dX2_needsMet_11 : decode cX2_needsMet 11 = .ok (.aload_n 0, 1) := by decide +kernel
theorem dX2_needsMet_12 : decode cX2_needsMet 12 = .ok (.getfield 30, 3) := by decide +kernel
theorem dX2_needsMet_15 : decode cX2_needsMet 15 = .ok (.iload_n 2, 1) := by decide +kernel
theorem dX2_needsMet_16 : decode cX2_needsMet 16 = .ok (.iaload, 1) := by decide +kernel
theorem dX2_needsMet_17 : decode cX2_needsMet 17 = .ok (.iadd, 1) := by decide +kernel
theorem dX2_needsMet_18 : decode cX2_needsMet 18 = .ok (.istore_n 1, 1) := by decide +kernel
theorem dX2_needsMet_19 : decode cX2_needsMet 19 = .ok (.iinc 2 1, 3) := by decide +kernel
theorem dX2_needsMet_22 : decode cX2_needsMet 22 = .ok (.goto (-18), 3) := by decide +kernel
theorem dX2_needsMet_25 : decode cX2_needsMet 25 = .ok (.iload_n 1, 1) := by decide +kernel
theorem dX2_needsMet_26 : decode cX2_needsMet 26 = .ok (.ireturn, 1) := by decide +kernel
theorem dX2_waresOfKind_0 : decode cX2_waresOfKind 0 = .ok (.iconst 0, 1) := by decide +kernel
theorem dX2_waresOfKind_1 : decode cX2_waresOfKind 1 = .ok (.istore_n 2, 1) := by decide +kernel
theorem dX2_waresOfKind_2 : decode cX2_waresOfKind 2 = .ok (.iconst 0, 1) := by decide +kernel
theorem dX2_waresOfKind_3 : decode cX2_waresOfKind 3 = .ok (.istore_n 3, 1) := by decide +kernel
theorem dX2_waresOfKind_4 : decode cX2_waresOfKind 4 = .ok (.iload_n 3, 1) := by decide +kernel
theorem dX2_waresOfKind_5 : decode cX2_waresOfKind 5 = .ok (.aload_n 0, 1) := by decide +kernel
theorem dX2_waresOfKind_6 : decode cX2_waresOfKind 6 = .ok (.getfield 61, 3) := by decide +kernel
theorem dX2_waresOfKind_9 : decode cX2_waresOfKind 9 = .ok (.if_icmp .ge 22, 3) := by decide +kernel
theorem dX2_waresOfKind_12 : decode cX2_waresOfKind 12 = .ok (.aload_n 0, 1) := by decide +kernel
theorem dX2_waresOfKind_13 : decode cX2_waresOfKind 13 = .ok (.getfield 18, 3) := by decide +kernel
theorem dX2_waresOfKind_16 : decode cX2_waresOfKind 16 = .ok (.iload_n 3, 1) := by decide +kernel
theorem dX2_waresOfKind_17 : decode cX2_waresOfKind 17 = .ok (.iaload, 1) := by decide +kernel
theorem dX2_waresOfKind_18 : decode cX2_waresOfKind 18 = .ok (.iload_n 1, 1) := by decide +kernel
theorem dX2_waresOfKind_19 : decode cX2_waresOfKind 19 = .ok (.if_icmp .ne 6, 3) := by decide +kernel
theorem dX2_waresOfKind_22 : decode cX2_waresOfKind 22 = .ok (.iinc 2 1, 3) := by decide +kernel
theorem dX2_waresOfKind_25 : decode cX2_waresOfKind 25 = .ok (.iinc 3 1, 3) := by decide +kernel
theorem dX2_waresOfKind_28 : decode cX2_waresOfKind 28 = .ok (.goto (-24), 3) := by decide +kernel
theorem dX2_waresOfKind_31 : decode cX2_waresOfKind 31 = .ok (.iload_n 2, 1) := by decide +kernel
theorem dX2_waresOfKind_32 : decode cX2_waresOfKind 32 = .ok (.ireturn, 1) := by decide +kernel
theorem dX2_soundWaresOfKind_0 : decode cX2_soundWaresOfKind 0 = .ok (.iconst 0, 1) := by decide +kernel
theorem dX2_soundWaresOfKind_1 : decode cX2_soundWaresOfKind 1 = .ok (.istore_n 2, 1) := by decide +kernel
theorem dX2_soundWaresOfKind_2 : decode cX2_soundWaresOfKind 2 = .ok (.iconst 0, 1) := by decide +kernel
theorem dX2_soundWaresOfKind_3 : decode cX2_soundWaresOfKind 3 = .ok (.istore_n 3, 1) := by decide +kernel
theorem dX2_soundWaresOfKind_4 : decode cX2_soundWaresOfKind 4 = .ok (.iload_n 3, 1) := by decide +kernel
theorem dX2_soundWaresOfKind_5 : decode cX2_soundWaresOfKind 5 = .ok (.aload_n 0, 1) := by decide +kernel
theorem dX2_soundWaresOfKind_6 : decode cX2_soundWaresOfKind 6 = .ok (.getfield 61, 3) := by decide +kernel
theorem dX2_soundWaresOfKind_9 : decode cX2_soundWaresOfKind 9 = .ok (.if_icmp .ge 30, 3) := by decide +kernel
theorem dX2_soundWaresOfKind_12 : decode cX2_soundWaresOfKind 12 = .ok (.aload_n 0, 1) := by decide +kernel
theorem dX2_soundWaresOfKind_13 : decode cX2_soundWaresOfKind 13 = .ok (.getfield 18, 3) := by decide +kernel
theorem dX2_soundWaresOfKind_16 : decode cX2_soundWaresOfKind 16 = .ok (.iload_n 3, 1) := by decide +kernel
theorem dX2_soundWaresOfKind_17 : decode cX2_soundWaresOfKind 17 = .ok (.iaload, 1) := by decide +kernel
theorem dX2_soundWaresOfKind_18 : decode cX2_soundWaresOfKind 18 = .ok (.iload_n 1, 1) := by decide +kernel
theorem dX2_soundWaresOfKind_19 : decode cX2_soundWaresOfKind 19 = .ok (.if_icmp .ne 14, 3) := by decide +kernel
theorem dX2_soundWaresOfKind_22 : decode cX2_soundWaresOfKind 22 = .ok (.aload_n 0, 1) := by decide +kernel
theorem dX2_soundWaresOfKind_23 : decode cX2_soundWaresOfKind 23 = .ok (.iload_n 3, 1) := by decide +kernel
theorem dX2_soundWaresOfKind_24 : decode cX2_soundWaresOfKind 24 = .ok (.invokevirtual 93, 3) := by decide +kernel
theorem dX2_soundWaresOfKind_27 : decode cX2_soundWaresOfKind 27 = .ok (.ifCond .eq 6, 3) := by decide +kernel
theorem dX2_soundWaresOfKind_30 : decode cX2_soundWaresOfKind 30 = .ok (.iinc 2 1, 3) := by decide +kernel
theorem dX2_soundWaresOfKind_33 : decode cX2_soundWaresOfKind 33 = .ok (.iinc 3 1, 3) := by decide +kernel
theorem dX2_soundWaresOfKind_36 : decode cX2_soundWaresOfKind 36 = .ok (.goto (-32), 3) := by decide +kernel
theorem dX2_soundWaresOfKind_39 : decode cX2_soundWaresOfKind 39 = .ok (.iload_n 2, 1) := by decide +kernel
theorem dX2_soundWaresOfKind_40 : decode cX2_soundWaresOfKind 40 = .ok (.ireturn, 1) := by decide +kernel
theorem dX2_soundWares_0 : decode cX2_soundWares 0 = .ok (.iconst 0, 1) := by decide +kernel
theorem dX2_soundWares_1 : decode cX2_soundWares 1 = .ok (.istore_n 1, 1) := by decide +kernel
theorem dX2_soundWares_2 : decode cX2_soundWares 2 = .ok (.iconst 0, 1) := by decide +kernel
theorem dX2_soundWares_3 : decode cX2_soundWares 3 = .ok (.istore_n 2, 1) := by decide +kernel
theorem dX2_soundWares_4 : decode cX2_soundWares 4 = .ok (.iload_n 2, 1) := by decide +kernel
theorem dX2_soundWares_5 : decode cX2_soundWares 5 = .ok (.aload_n 0, 1) := by decide +kernel
theorem dX2_soundWares_6 : decode cX2_soundWares 6 = .ok (.getfield 61, 3) := by decide +kernel
theorem dX2_soundWares_9 : decode cX2_soundWares 9 = .ok (.if_icmp .ge 20, 3) := by decide +kernel
theorem dX2_soundWares_12 : decode cX2_soundWares 12 = .ok (.aload_n 0, 1) := by decide +kernel
theorem dX2_soundWares_13 : decode cX2_soundWares 13 = .ok (.iload_n 2, 1) := by decide +kernel
theorem dX2_soundWares_14 : decode cX2_soundWares 14 = .ok (.invokevirtual 93, 3) := by decide +kernel
theorem dX2_soundWares_17 : decode cX2_soundWares 17 = .ok (.ifCond .eq 6, 3) := by decide +kernel
theorem dX2_soundWares_20 : decode cX2_soundWares 20 = .ok (.iinc 1 1, 3) := by decide +kernel
theorem dX2_soundWares_23 : decode cX2_soundWares 23 = .ok (.iinc 2 1, 3) := by decide +kernel
theorem dX2_soundWares_26 : decode cX2_soundWares 26 = .ok (.goto (-22), 3) := by decide +kernel
theorem dX2_soundWares_29 : decode cX2_soundWares 29 = .ok (.iload_n 1, 1) := by decide +kernel
theorem dX2_soundWares_30 : decode cX2_soundWares 30 = .ok (.ireturn, 1) := by decide +kernel
theorem dX2_spoiltWares_0 : decode cX2_spoiltWares 0 = .ok (.iconst 0, 1) := by decide +kernel
theorem dX2_spoiltWares_1 : decode cX2_spoiltWares 1 = .ok (.istore_n 1, 1) := by decide +kernel
theorem dX2_spoiltWares_2 : decode cX2_spoiltWares 2 = .ok (.iconst 0, 1) := by decide +kernel
theorem dX2_spoiltWares_3 : decode cX2_spoiltWares 3 = .ok (.istore_n 2, 1) := by decide +kernel
theorem dX2_spoiltWares_4 : decode cX2_spoiltWares 4 = .ok (.iload_n 2, 1) := by decide +kernel
theorem dX2_spoiltWares_5 : decode cX2_spoiltWares 5 = .ok (.aload_n 0, 1) := by decide +kernel
theorem dX2_spoiltWares_6 : decode cX2_spoiltWares 6 = .ok (.getfield 61, 3) := by decide +kernel
theorem dX2_spoiltWares_9 : decode cX2_spoiltWares 9 = .ok (.if_icmp .ge 28, 3) := by decide +kernel
theorem dX2_spoiltWares_12 : decode cX2_spoiltWares 12 = .ok (.aload_n 0, 1) := by decide +kernel
theorem dX2_spoiltWares_13 : decode cX2_spoiltWares 13 = .ok (.iload_n 2, 1) := by decide +kernel
theorem dX2_spoiltWares_14 : decode cX2_spoiltWares 14 = .ok (.invokevirtual 90, 3) := by decide +kernel
theorem dX2_spoiltWares_17 : decode cX2_spoiltWares 17 = .ok (.ifCond .eq 14, 3) := by decide +kernel
theorem dX2_spoiltWares_20 : decode cX2_spoiltWares 20 = .ok (.aload_n 0, 1) := by decide +kernel
theorem dX2_spoiltWares_21 : decode cX2_spoiltWares 21 = .ok (.iload_n 2, 1) := by decide +kernel
theorem dX2_spoiltWares_22 : decode cX2_spoiltWares 22 = .ok (.invokevirtual 93, 3) := by decide +kernel
theorem dX2_spoiltWares_25 : decode cX2_spoiltWares 25 = .ok (.ifCond .ne 6, 3) := by decide +kernel
theorem dX2_spoiltWares_28 : decode cX2_spoiltWares 28 = .ok (.iinc 1 1, 3) := by decide +kernel
theorem dX2_spoiltWares_31 : decode cX2_spoiltWares 31 = .ok (.iinc 2 1, 3) := by decide +kernel
theorem dX2_spoiltWares_34 : decode cX2_spoiltWares 34 = .ok (.goto (-30), 3) := by decide +kernel
theorem dX2_spoiltWares_37 : decode cX2_spoiltWares 37 = .ok (.iload_n 1, 1) := by decide +kernel
theorem dX2_spoiltWares_38 : decode cX2_spoiltWares 38 = .ok (.ireturn, 1) := by decide +kernel
theorem dX2_daysLeftOfAll_0 : decode cX2_daysLeftOfAll 0 = .ok (.iconst 0, 1) := by decide +kernel
theorem dX2_daysLeftOfAll_1 : decode cX2_daysLeftOfAll 1 = .ok (.istore_n 1, 1) := by decide +kernel
theorem dX2_daysLeftOfAll_2 : decode cX2_daysLeftOfAll 2 = .ok (.iconst 0, 1) := by decide +kernel
theorem dX2_daysLeftOfAll_3 : decode cX2_daysLeftOfAll 3 = .ok (.istore_n 2, 1) := by decide +kernel
theorem dX2_daysLeftOfAll_4 : decode cX2_daysLeftOfAll 4 = .ok (.iload_n 2, 1) := by decide +kernel
theorem dX2_daysLeftOfAll_5 : decode cX2_daysLeftOfAll 5 = .ok (.aload_n 0, 1) := by decide +kernel
theorem dX2_daysLeftOfAll_6 : decode cX2_daysLeftOfAll 6 = .ok (.getfield 61, 3) := by decide +kernel
theorem dX2_daysLeftOfAll_9 : decode cX2_daysLeftOfAll 9 = .ok (.if_icmp .ge 17, 3) := by decide +kernel
theorem dX2_daysLeftOfAll_12 : decode cX2_daysLeftOfAll 12 = .ok (.iload_n 1, 1) := by decide +kernel
theorem dX2_daysLeftOfAll_13 : decode cX2_daysLeftOfAll 13 = .ok (.aload_n 0, 1) := by decide +kernel
theorem dX2_daysLeftOfAll_14 : decode cX2_daysLeftOfAll 14 = .ok (.iload_n 2, 1) := by decide +kernel
theorem dX2_daysLeftOfAll_15 : decode cX2_daysLeftOfAll 15 = .ok (.invokevirtual 132, 3) := by decide +kernel
theorem dX2_daysLeftOfAll_18 : decode cX2_daysLeftOfAll 18 = .ok (.iadd, 1) := by decide +kernel
theorem dX2_daysLeftOfAll_19 : decode cX2_daysLeftOfAll 19 = .ok (.istore_n 1, 1) := by decide +kernel
theorem dX2_daysLeftOfAll_20 : decode cX2_daysLeftOfAll 20 = .ok (.iinc 2 1, 3) := by decide +kernel
theorem dX2_daysLeftOfAll_23 : decode cX2_daysLeftOfAll 23 = .ok (.goto (-19), 3) := by decide +kernel
theorem dX2_daysLeftOfAll_26 : decode cX2_daysLeftOfAll 26 = .ok (.iload_n 1, 1) := by decide +kernel
theorem dX2_daysLeftOfAll_27 : decode cX2_daysLeftOfAll 27 = .ok (.ireturn, 1) := by decide +kernel
theorem dX2_tradersWhoWant_0 : decode cX2_tradersWhoWant 0 = .ok (.iconst 0, 1) := by decide +kernel
theorem dX2_tradersWhoWant_1 : decode cX2_tradersWhoWant 1 = .ok (.istore_n 2, 1) := by decide +kernel
theorem dX2_tradersWhoWant_2 : decode cX2_tradersWhoWant 2 = .ok (.iconst 0, 1) := by decide +kernel
theorem dX2_tradersWhoWant_3 : decode cX2_tradersWhoWant 3 = .ok (.istore_n 3, 1) := by decide +kernel
theorem dX2_tradersWhoWant_4 : decode cX2_tradersWhoWant 4 = .ok (.iload_n 3, 1) := by decide +kernel
theorem dX2_tradersWhoWant_5 : decode cX2_tradersWhoWant 5 = .ok (.aload_n 0, 1) := by decide +kernel
theorem dX2_tradersWhoWant_6 : decode cX2_tradersWhoWant 6 = .ok (.getfield 61, 3) := by decide +kernel
theorem dX2_tradersWhoWant_9 : decode cX2_tradersWhoWant 9 = .ok (.if_icmp .ge 25, 3) := by decide +kernel
theorem dX2_tradersWhoWant_12 : decode cX2_tradersWhoWant 12 = .ok (.aload_n 0, 1) := by decide +kernel
theorem dX2_tradersWhoWant_13 : decode cX2_tradersWhoWant 13 = .ok (.getfield 15, 3) := by decide +kernel
theorem dX2_tradersWhoWant_16 : decode cX2_tradersWhoWant 16 = .ok (.iload_n 3, 1) := by decide +kernel
theorem dX2_tradersWhoWant_17 : decode cX2_tradersWhoWant 17 = .ok (.iaload, 1) := by decide +kernel
theorem dX2_tradersWhoWant_18 : decode cX2_tradersWhoWant 18 = .ok (.iload_n 1, 1) := by decide +kernel
theorem dX2_tradersWhoWant_19 : decode cX2_tradersWhoWant 19 = .ok (.invokestatic 96, 3) := by decide +kernel
theorem dX2_tradersWhoWant_22 : decode cX2_tradersWhoWant 22 = .ok (.ifCond .eq 6, 3) := by decide +kernel
theorem dX2_tradersWhoWant_25 : decode cX2_tradersWhoWant 25 = .ok (.iinc 2 1, 3) := by decide +kernel
theorem dX2_tradersWhoWant_28 : decode cX2_tradersWhoWant 28 = .ok (.iinc 3 1, 3) := by decide +kernel
theorem dX2_tradersWhoWant_31 : decode cX2_tradersWhoWant 31 = .ok (.goto (-27), 3) := by decide +kernel
theorem dX2_tradersWhoWant_34 : decode cX2_tradersWhoWant 34 = .ok (.iload_n 2, 1) := by decide +kernel
theorem dX2_tradersWhoWant_35 : decode cX2_tradersWhoWant 35 = .ok (.ireturn, 1) := by decide +kernel
theorem dX2_tradersWhoMake_0 : decode cX2_tradersWhoMake 0 = .ok (.iconst 0, 1) := by decide +kernel
theorem dX2_tradersWhoMake_1 : decode cX2_tradersWhoMake 1 = .ok (.istore_n 2, 1) := by decide +kernel
theorem dX2_tradersWhoMake_2 : decode cX2_tradersWhoMake 2 = .ok (.iconst 0, 1) := by decide +kernel
theorem dX2_tradersWhoMake_3 : decode cX2_tradersWhoMake 3 = .ok (.istore_n 3, 1) := by decide +kernel
theorem dX2_tradersWhoMake_4 : decode cX2_tradersWhoMake 4 = .ok (.iload_n 3, 1) := by decide +kernel
theorem dX2_tradersWhoMake_5 : decode cX2_tradersWhoMake 5 = .ok (.aload_n 0, 1) := by decide +kernel
theorem dX2_tradersWhoMake_6 : decode cX2_tradersWhoMake 6 = .ok (.getfield 61, 3) := by decide +kernel
theorem dX2_tradersWhoMake_9 : decode cX2_tradersWhoMake 9 = .ok (.if_icmp .ge 22, 3) := by decide +kernel
