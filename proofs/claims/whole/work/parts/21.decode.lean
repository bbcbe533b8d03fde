theorem dX5_circle_27 : decode cX5_circle 27 = .ok (.istore_n 2, 1) := by decide +kernel
theorem dX5_circle_28 : decode cX5_circle 28 = .ok (.aload_n 0, 1) := by decide +kernel
theorem dX5_circle_29 : decode cX5_circle 29 = .ok (.getfield 10, 3) := by decide +kernel
theorem dX5_circle_32 : decode cX5_circle 32 = .ok (.iload_n 1, 1) := by decide +kernel
theorem dX5_circle_33 : decode cX5_circle 33 = .ok (.putfield 92, 3) := by decide +kernel
theorem dX5_circle_36 : decode cX5_circle 36 = .ok (.iload_n 2, 1) := by decide +kernel
theorem dX5_circle_37 : decode cX5_circle 37 = .ok (.ireturn, 1) := by decide +kernel
theorem dX5_lot_0 : decode cX5_lot 0 = .ok (.iload_n 1, 1) := by decide +kernel
theorem dX5_lot_1 : decode cX5_lot 1 = .ok (.ifCond .lt 10, 3) := by decide +kernel
theorem dX5_lot_4 : decode cX5_lot 4 = .ok (.iload_n 1, 1) := by decide +kernel
theorem dX5_lot_5 : decode cX5_lot 5 = .ok (.sipush 10000, 3) := by decide +kernel
theorem dX5_lot_8 : decode cX5_lot 8 = .ok (.if_icmp .lt 5, 3) := by decide +kernel
theorem dX5_lot_11 : decode cX5_lot 11 = .ok (.iconst (-1), 1) := by decide +kernel
theorem dX5_lot_12 : decode cX5_lot 12 = .ok (.ireturn, 1) := by decide +kernel
theorem dX5_lot_13 : decode cX5_lot 13 = .ok (.aload_n 0, 1) := by decide +kernel
theorem dX5_lot_14 : decode cX5_lot 14 = .ok (.getfield 25, 3) := by decide +kernel
theorem dX5_lot_17 : decode cX5_lot 17 = .ok (.aload_n 0, 1) := by decide +kernel
theorem dX5_lot_18 : decode cX5_lot 18 = .ok (.getfield 10, 3) := by decide +kernel
theorem dX5_lot_21 : decode cX5_lot 21 = .ok (.invokevirtual 64, 3) := by decide +kernel
theorem dX5_lot_24 : decode cX5_lot 24 = .ok (.aload_n 0, 1) := by decide +kernel
theorem dX5_lot_25 : decode cX5_lot 25 = .ok (.getfield 10, 3) := by decide +kernel
theorem dX5_lot_28 : decode cX5_lot 28 = .ok (.getfield 95, 3) := by decide +kernel
theorem dX5_lot_31 : decode cX5_lot 31 = .ok (.istore_n 2, 1) := by decide +kernel
theorem dX5_lot_32 : decode cX5_lot 32 = .ok (.aload_n 0, 1) := by decide +kernel
theorem dX5_lot_33 : decode cX5_lot 33 = .ok (.getfield 10, 3) := by decide +kernel
theorem dX5_lot_36 : decode cX5_lot 36 = .ok (.iload_n 1, 1) := by decide +kernel
theorem dX5_lot_37 : decode cX5_lot 37 = .ok (.putfield 95, 3) := by decide +kernel
theorem dX5_lot_40 : decode cX5_lot 40 = .ok (.iload_n 2, 1) := by decide +kernel
theorem dX5_lot_41 : decode cX5_lot 41 = .ok (.ireturn, 1) := by decide +kernel
theorem dX5_barter_0 : decode cX5_barter 0 = .ok (.aload_n 0, 1) := by decide +kernel
theorem dX5_barter_1 : decode cX5_barter 1 = .ok (.getfield 10, 3) := by decide +kernel
theorem dX5_barter_4 : decode cX5_barter 4 = .ok (.iload_n 1, 1) := by decide +kernel
theorem dX5_barter_5 : decode cX5_barter 5 = .ok (.iload_n 2, 1) := by decide +kernel
theorem dX5_barter_6 : decode cX5_barter 6 = .ok (.invokevirtual 98, 3) := by decide +kernel
theorem dX5_barter_9 : decode cX5_barter 9 = .ok (.ifCond .ne 5, 3) := by decide +kernel
theorem dX5_barter_12 : decode cX5_barter 12 = .ok (.iconst (-1), 1) := by decide +kernel
theorem dX5_barter_13 : decode cX5_barter 13 = .ok (.ireturn, 1) := by decide +kernel
theorem dX5_barter_14 : decode cX5_barter 14 = .ok (.aload_n 0, 1) := by decide +kernel
theorem dX5_barter_15 : decode cX5_barter 15 = .ok (.getfield 25, 3) := by decide +kernel
theorem dX5_barter_18 : decode cX5_barter 18 = .ok (.aload_n 0, 1) := by decide +kernel
theorem dX5_barter_19 : decode cX5_barter 19 = .ok (.getfield 10, 3) := by decide +kernel
theorem dX5_barter_22 : decode cX5_barter 22 = .ok (.invokevirtual 64, 3) := by decide +kernel
theorem dX5_barter_25 : decode cX5_barter 25 = .ok (.aload_n 0, 1) := by decide +kernel
theorem dX5_barter_26 : decode cX5_barter 26 = .ok (.getfield 10, 3) := by decide +kernel
theorem dX5_barter_29 : decode cX5_barter 29 = .ok (.iload_n 1, 1) := by decide +kernel
theorem dX5_barter_30 : decode cX5_barter 30 = .ok (.iload_n 2, 1) := by decide +kernel
theorem dX5_barter_31 : decode cX5_barter 31 = .ok (.invokevirtual 102, 3) := by decide +kernel
theorem dX5_barter_34 : decode cX5_barter 34 = .ok (.ireturn, 1) := by decide +kernel
theorem dX5_call_0 : decode cX5_call 0 = .ok (.aload_n 0, 1) := by decide +kernel
theorem dX5_call_1 : decode cX5_call 1 = .ok (.getfield 25, 3) := by decide +kernel
theorem dX5_call_4 : decode cX5_call 4 = .ok (.aload_n 0, 1) := by decide +kernel
theorem dX5_call_5 : decode cX5_call 5 = .ok (.getfield 10, 3) := by decide +kernel
theorem dX5_call_8 : decode cX5_call 8 = .ok (.invokevirtual 64, 3) := by decide +kernel
theorem dX5_call_11 : decode cX5_call 11 = .ok (.aload_n 0, 1) := by decide +kernel
theorem dX5_call_12 : decode cX5_call 12 = .ok (.aload_n 0, 1) := by decide +kernel
theorem dX5_call_13 : decode cX5_call 13 = .ok (.getfield 10, 3) := by decide +kernel
theorem dX5_call_16 : decode cX5_call 16 = .ok (.invokevirtual 106, 3) := by decide +kernel
theorem dX5_call_19 : decode cX5_call 19 = .ok (.ireturn, 1) := by decide +kernel
theorem dX5_day_0 : decode cX5_day 0 = .ok (.aload_n 0, 1) := by decide +kernel
theorem dX5_day_1 : decode cX5_day 1 = .ok (.getfield 25, 3) := by decide +kernel
theorem dX5_day_4 : decode cX5_day 4 = .ok (.aload_n 0, 1) := by decide +kernel
theorem dX5_day_5 : decode cX5_day 5 = .ok (.getfield 10, 3) := by decide +kernel
theorem dX5_day_8 : decode cX5_day 8 = .ok (.invokevirtual 64, 3) := by decide +kernel
theorem dX5_day_11 : decode cX5_day 11 = .ok (.aload_n 0, 1) := by decide +kernel
theorem dX5_day_12 : decode cX5_day 12 = .ok (.getfield 10, 3) := by decide +kernel
theorem dX5_day_15 : decode cX5_day 15 = .ok (.invokevirtual 110, 3) := by decide +kernel
theorem dX5_day_18 : decode cX5_day 18 = .ok (.ireturn, 1) := by decide +kernel
theorem dX5_append_0 : decode cX5_append 0 = .ok (.iload_n 1, 1) := by decide +kernel
theorem dX5_append_1 : decode cX5_append 1 = .ok (.bipush 33, 2) := by decide +kernel
theorem dX5_append_3 : decode cX5_append 3 = .ok (.if_icmp .lt 9, 3) := by decide +kernel
theorem dX5_append_6 : decode cX5_append 6 = .ok (.iload_n 1, 1) := by decide +kernel
theorem dX5_append_7 : decode cX5_append 7 = .ok (.bipush 126, 2) := by decide +kernel
theorem dX5_append_9 : decode cX5_append 9 = .ok (.if_icmp .le 5, 3) := by decide +kernel
theorem dX5_append_12 : decode cX5_append 12 = .ok (.iconst (-1), 1) := by decide +kernel
theorem dX5_append_13 : decode cX5_append 13 = .ok (.ireturn, 1) := by decide +kernel
theorem dX5_append_14 : decode cX5_append 14 = .ok (.aload_n 0, 1) := by decide +kernel
theorem dX5_append_15 : decode cX5_append 15 = .ok (.getfield 32, 3) := by decide +kernel
theorem dX5_append_18 : decode cX5_append 18 = .ok (.getfield 114, 3) := by decide +kernel
theorem dX5_append_21 : decode cX5_append 21 = .ok (.bipush 60, 2) := by decide +kernel
theorem dX5_append_23 : decode cX5_append 23 = .ok (.if_icmp .lt 6, 3) := by decide +kernel
theorem dX5_append_26 : decode cX5_append 26 = .ok (.bipush (-3), 2) := by decide +kernel
theorem dX5_append_28 : decode cX5_append 28 = .ok (.ireturn, 1) := by decide +kernel
theorem dX5_append_29 : decode cX5_append 29 = .ok (.aload_n 0, 1) := by decide +kernel
theorem dX5_append_30 : decode cX5_append 30 = .ok (.getfield 32, 3) := by decide +kernel
theorem dX5_append_33 : decode cX5_append 33 = .ok (.iload_n 1, 1) := by decide +kernel
theorem dX5_append_34 : decode cX5_append 34 = .ok (.i2c, 1) := by decide +kernel
theorem dX5_append_35 : decode cX5_append 35 = .ok (.invokevirtual 117, 3) := by decide +kernel
theorem dX5_append_38 : decode cX5_append 38 = .ok (.aload_n 0, 1) := by decide +kernel
theorem dX5_append_39 : decode cX5_append 39 = .ok (.getfield 32, 3) := by decide +kernel
theorem dX5_append_42 : decode cX5_append 42 = .ok (.getfield 114, 3) := by decide +kernel
theorem dX5_append_45 : decode cX5_append 45 = .ok (.ireturn, 1) := by decide +kernel
theorem dX5_clear_0 : decode cX5_clear 0 = .ok (.aload_n 0, 1) := by decide +kernel
theorem dX5_clear_1 : decode cX5_clear 1 = .ok (.getfield 32, 3) := by decide +kernel
theorem dX5_clear_4 : decode cX5_clear 4 = .ok (.getfield 114, 3) := by decide +kernel
theorem dX5_clear_7 : decode cX5_clear 7 = .ok (.istore_n 1, 1) := by decide +kernel
theorem dX5_clear_8 : decode cX5_clear 8 = .ok (.aload_n 0, 1) := by decide +kernel
theorem dX5_clear_9 : decode cX5_clear 9 = .ok (.getfield 32, 3) := by decide +kernel
theorem dX5_clear_12 : decode cX5_clear 12 = .ok (.iconst 0, 1) := by decide +kernel
theorem dX5_clear_13 : decode cX5_clear 13 = .ok (.putfield 114, 3) := by decide +kernel
theorem dX5_clear_16 : decode cX5_clear 16 = .ok (.iload_n 1, 1) := by decide +kernel
theorem dX5_clear_17 : decode cX5_clear 17 = .ok (.ireturn, 1) := by decide +kernel
theorem dX5_fault_0 : decode cX5_fault 0 = .ok (.iload_n 1, 1) := by decide +kernel
theorem dX5_fault_1 : decode cX5_fault 1 = .ok (.lookupswitch 43 #[(0, 27), (1, 35)], 27) := by decide +kernel
theorem dX5_fault_28 : decode cX5_fault 28 = .ok (.aload_n 0, 1) := by decide +kernel
theorem dX5_fault_29 : decode cX5_fault 29 = .ok (.getfield 32, 3) := by decide +kernel
theorem dX5_fault_32 : decode cX5_fault 32 = .ok (.invokevirtual 121, 3) := by decide +kernel
theorem dX5_fault_35 : decode cX5_fault 35 = .ok (.ireturn, 1) := by decide +kernel
theorem dX5_fault_36 : decode cX5_fault 36 = .ok (.aload_n 0, 1) := by decide +kernel
theorem dX5_fault_37 : decode cX5_fault 37 = .ok (.getfield 32, 3) := by decide +kernel
theorem dX5_fault_40 : decode cX5_fault 40 = .ok (.invokevirtual 124, 3) := by decide +kernel
theorem dX5_fault_43 : decode cX5_fault 43 = .ok (.ireturn, 1) := by decide +kernel
theorem dX5_fault_44 : decode cX5_fault 44 = .ok (.iconst (-1), 1) := by decide +kernel
theorem dX5_fault_45 : decode cX5_fault 45 = .ok (.ireturn, 1) := by decide +kernel
theorem dX5_traders_0 : decode cX5_traders 0 = .ok (.aload_n 0, 1) := by decide +kernel
theorem dX5_traders_1 : decode cX5_traders 1 = .ok (.getfield 32, 3) := by decide +kernel
theorem dX5_traders_4 : decode cX5_traders 4 = .ok (.invokevirtual 121, 3) := by decide +kernel
theorem dX5_traders_7 : decode cX5_traders 7 = .ok (.bipush (-4), 2) := by decide +kernel
theorem dX5_traders_9 : decode cX5_traders 9 = .ok (.if_icmp .eq 6, 3) := by decide +kernel
theorem dX5_traders_12 : decode cX5_traders 12 = .ok (.bipush (-2), 2) := by decide +kernel
theorem dX5_traders_14 : decode cX5_traders 14 = .ok (.ireturn, 1) := by decide +kernel
theorem dX5_traders_15 : decode cX5_traders 15 = .ok (.aload_n 0, 1) := by decide +kernel
theorem dX5_traders_16 : decode cX5_traders 16 = .ok (.getfield 10, 3) := by decide +kernel
theorem dX5_traders_19 : decode cX5_traders 19 = .ok (.getfield 61, 3) := by decide +kernel
theorem dX5_traders_22 : decode cX5_traders 22 = .ok (.aload_n 0, 1) := by decide +kernel
theorem dX5_traders_23 : decode cX5_traders 23 = .ok (.getfield 32, 3) := by decide +kernel
theorem dX5_traders_26 : decode cX5_traders 26 = .ok (.invokevirtual 127, 3) := by decide +kernel
theorem dX5_traders_29 : decode cX5_traders 29 = .ok (.iadd, 1) := by decide +kernel
theorem dX5_traders_30 : decode cX5_traders 30 = .ok (.bipush 7, 2) := by decide +kernel
theorem dX5_traders_32 : decode cX5_traders 32 = .ok (.if_icmp .le 6, 3) := by decide +kernel
theorem dX5_traders_35 : decode cX5_traders 35 = .ok (.bipush (-3), 2) := by decide +kernel
theorem dX5_traders_37 : decode cX5_traders 37 = .ok (.ireturn, 1) := by decide +kernel
theorem dX5_traders_38 : decode cX5_traders 38 = .ok (.aload_n 0, 1) := by decide +kernel
theorem dX5_traders_39 : decode cX5_traders 39 = .ok (.getfield 25, 3) := by decide +kernel
theorem dX5_traders_42 : decode cX5_traders 42 = .ok (.aload_n 0, 1) := by decide +kernel
theorem dX5_traders_43 : decode cX5_traders 43 = .ok (.getfield 10, 3) := by decide +kernel
theorem dX5_traders_46 : decode cX5_traders 46 = .ok (.invokevirtual 64, 3) := by decide +kernel
theorem dX5_traders_49 : decode cX5_traders 49 = .ok (.iconst 0, 1) := by decide +kernel
theorem dX5_traders_50 : decode cX5_traders 50 = .ok (.istore_n 1, 1) := by decide +kernel
theorem dX5_traders_51 : decode cX5_traders 51 = .ok (.iload_n 1, 1) := by decide +kernel
theorem dX5_traders_52 : decode cX5_traders 52 = .ok (.aload_n 0, 1) := by decide +kernel
theorem dX5_traders_53 : decode cX5_traders 53 = .ok (.getfield 32, 3) := by decide +kernel
theorem dX5_traders_56 : decode cX5_traders 56 = .ok (.getfield 114, 3) := by decide +kernel
theorem dX5_traders_59 : decode cX5_traders 59 = .ok (.if_icmp .ge 47, 3) := by decide +kernel
theorem dX5_traders_62 : decode cX5_traders 62 = .ok (.aload_n 0, 1) := by decide +kernel
theorem dX5_traders_63 : decode cX5_traders 63 = .ok (.getfield 32, 3) := by decide +kernel
theorem dX5_traders_66 : decode cX5_traders 66 = .ok (.iload_n 1, 1) := by decide +kernel
theorem dX5_traders_67 : decode cX5_traders 67 = .ok (.invokevirtual 130, 3) := by decide +kernel
theorem dX5_traders_70 : decode cX5_traders 70 = .ok (.bipush 62, 2) := by decide +kernel
theorem dX5_traders_72 : decode cX5_traders 72 = .ok (.if_icmp .ne 28, 3) := by decide +kernel
theorem dX5_traders_75 : decode cX5_traders 75 = .ok (.aload_n 0, 1) := by decide +kernel
theorem dX5_traders_76 : decode cX5_traders 76 = .ok (.getfield 10, 3) := by decide +kernel
theorem dX5_traders_79 : decode cX5_traders 79 = .ok (.aload_n 0, 1) := by decide +kernel
theorem dX5_traders_80 : decode cX5_traders 80 = .ok (.getfield 32, 3) := by decide +kernel
theorem dX5_traders_83 : decode cX5_traders 83 = .ok (.iload_n 1, 1) := by decide +kernel
theorem dX5_traders_84 : decode cX5_traders 84 = .ok (.iconst 1, 1) := by decide +kernel
theorem dX5_traders_85 : decode cX5_traders 85 = .ok (.isub, 1) := by decide +kernel
theorem dX5_traders_86 : decode cX5_traders 86 = .ok (.invokevirtual 134, 3) := by decide +kernel
theorem dX5_traders_89 : decode cX5_traders 89 = .ok (.aload_n 0, 1) := by decide +kernel
theorem dX5_traders_90 : decode cX5_traders 90 = .ok (.getfield 32, 3) := by decide +kernel
theorem dX5_traders_93 : decode cX5_traders 93 = .ok (.iload_n 1, 1) := by decide +kernel
theorem dX5_traders_94 : decode cX5_traders 94 = .ok (.invokevirtual 138, 3) := by decide +kernel
theorem dX5_traders_97 : decode cX5_traders 97 = .ok (.invokevirtual 68, 3) := by decide +kernel
theorem dX5_traders_100 : decode cX5_traders 100 = .ok (.iinc 1 1, 3) := by decide +kernel
theorem dX5_traders_103 : decode cX5_traders 103 = .ok (.goto (-52), 3) := by decide +kernel
theorem dX5_traders_106 : decode cX5_traders 106 = .ok (.aload_n 0, 1) := by decide +kernel
theorem dX5_traders_107 : decode cX5_traders 107 = .ok (.getfield 32, 3) := by decide +kernel
theorem dX5_traders_110 : decode cX5_traders 110 = .ok (.iconst 0, 1) := by decide +kernel
theorem dX5_traders_111 : decode cX5_traders 111 = .ok (.putfield 114, 3) := by decide +kernel
theorem dX5_traders_114 : decode cX5_traders 114 = .ok (.aload_n 0, 1) := by decide +kernel
theorem dX5_traders_115 : decode cX5_traders 115 = .ok (.getfield 10, 3) := by decide +kernel
theorem dX5_traders_118 : decode cX5_traders 118 = .ok (.getfield 61, 3) := by decide +kernel
theorem dX5_traders_121 : decode cX5_traders 121 = .ok (.ireturn, 1) := by decide +kernel
theorem dX5_days_0 : decode cX5_days 0 = .ok (.aload_n 0, 1) := by decide +kernel
theorem dX5_days_1 : decode cX5_days 1 = .ok (.getfield 32, 3) := by decide +kernel
theorem dX5_days_4 : decode cX5_days 4 = .ok (.invokevirtual 124, 3) := by decide +kernel
theorem dX5_days_7 : decode cX5_days 7 = .ok (.bipush (-4), 2) := by decide +kernel
theorem dX5_days_9 : decode cX5_days 9 = .ok (.if_icmp .eq 6, 3) := by decide +kernel
theorem dX5_days_12 : decode cX5_days 12 = .ok (.bipush (-2), 2) := by decide +kernel
theorem dX5_days_14 : decode cX5_days 14 = .ok (.ireturn, 1) := by decide +kernel
theorem dX5_days_15 : decode cX5_days 15 = .ok (.aload_n 0, 1) := by decide +kernel
theorem dX5_days_16 : decode cX5_days 16 = .ok (.getfield 25, 3) := by decide +kernel
theorem dX5_days_19 : decode cX5_days 19 = .ok (.aload_n 0, 1) := by decide +kernel
theorem dX5_days_20 : decode cX5_days 20 = .ok (.getfield 10, 3) := by decide +kernel
theorem dX5_days_23 : decode cX5_days 23 = .ok (.invokevirtual 64, 3) := by decide +kernel
theorem dX5_days_26 : decode cX5_days 26 = .ok (.aload_n 0, 1) := by decide +kernel
theorem dX5_days_27 : decode cX5_days 27 = .ok (.getfield 10, 3) := by decide +kernel
theorem dX5_days_30 : decode cX5_days 30 = .ok (.invokevirtual 141, 3) := by decide +kernel
theorem dX5_days_33 : decode cX5_days 33 = .ok (.istore_n 1, 1) := by decide +kernel
theorem dX5_days_34 : decode cX5_days 34 = .ok (.aload_n 0, 1) := by decide +kernel
theorem dX5_days_35 : decode cX5_days 35 = .ok (.iconst (-1), 1) := by decide +kernel
theorem dX5_days_36 : decode cX5_days 36 = .ok (.putfield 50, 3) := by decide +kernel
theorem dX5_days_39 : decode cX5_days 39 = .ok (.iconst 0, 1) := by decide +kernel
theorem dX5_days_40 : decode cX5_days 40 = .ok (.istore_n 2, 1) := by decide +kernel
theorem dX5_days_41 : decode cX5_days 41 = .ok (.iload_n 2, 1) := by decide +kernel
theorem dX5_days_42 : decode cX5_days 42 = .ok (.aload_n 0, 1) := by decide +kernel
theorem dX5_days_43 : decode cX5_days 43 = .ok (.getfield 32, 3) := by decide +kernel
theorem dX5_days_46 : decode cX5_days 46 = .ok (.getfield 114, 3) := by decide +kernel
theorem dX5_days_49 : decode cX5_days 49 = .ok (.if_icmp .ge 72, 3) := by decide +kernel
theorem dX5_days_52 : decode cX5_days 52 = .ok (.aload_n 0, 1) := by decide +kernel
theorem dX5_days_53 : decode cX5_days 53 = .ok (.getfield 50, 3) := by decide +kernel
theorem dX5_days_56 : decode cX5_days 56 = .ok (.iconst (-1), 1) := by decide +kernel
theorem dX5_days_57 : decode cX5_days 57 = .ok (.if_icmp .ne 64, 3) := by decide +kernel
theorem dX5_days_60 : decode cX5_days 60 = .ok (.aload_n 0, 1) := by decide +kernel
theorem dX5_days_61 : decode cX5_days 61 = .ok (.getfield 32, 3) := by decide +kernel
theorem dX5_days_64 : decode cX5_days 64 = .ok (.iload_n 2, 1) := by decide +kernel
theorem dX5_days_65 : decode cX5_days 65 = .ok (.invokevirtual 130, 3) := by decide +kernel
theorem dX5_days_68 : decode cX5_days 68 = .ok (.istore_n 3, 1) := by decide +kernel
theorem dX5_days_69 : decode cX5_days 69 = .ok (.iload_n 3, 1) := by decide +kernel
theorem dX5_days_70 : decode cX5_days 70 = .ok (.bipush 99, 2) := by decide +kernel
theorem dX5_days_72 : decode cX5_days 72 = .ok (.if_icmp .ne 15, 3) := by decide +kernel
theorem dX5_days_75 : decode cX5_days 75 = .ok (.aload_n 0, 1) := by decide +kernel
theorem dX5_days_76 : decode cX5_days 76 = .ok (.aload_n 0, 1) := by decide +kernel
theorem dX5_days_77 : decode cX5_days 77 = .ok (.getfield 10, 3) := by decide +kernel
theorem dX5_days_80 : decode cX5_days 80 = .ok (.invokevirtual 106, 3) := by decide +kernel
theorem dX5_days_83 : decode cX5_days 83 = .ok (.pop, 1) := by decide +kernel
theorem dX5_days_84 : decode cX5_days 84 = .ok (.goto 31, 3) := by decide +kernel
theorem dX5_days_87 : decode cX5_days 87 = .ok (.iload_n 3, 1) := by decide +kernel
theorem dX5_days_88 : decode cX5_days 88 = .ok (.bipush 100, 2) := by decide +kernel
theorem dX5_days_90 : decode cX5_days 90 = .ok (.if_icmp .ne 14, 3) := by decide +kernel
theorem dX5_days_93 : decode cX5_days 93 = .ok (.aload_n 0, 1) := by decide +kernel
theorem dX5_days_94 : decode cX5_days 94 = .ok (.getfield 10, 3) := by decide +kernel
theorem dX5_days_97 : decode cX5_days 97 = .ok (.invokevirtual 110, 3) := by decide +kernel
theorem dX5_days_100 : decode cX5_days 100 = .ok (.pop, 1) := by decide +kernel
theorem dX5_days_101 : decode cX5_days 101 = .ok (.goto 14, 3) := by decide +kernel
theorem dX5_days_104 : decode cX5_days 104 = .ok (.iload_n 3, 1) := by decide +kernel
theorem dX5_days_105 : decode cX5_days 105 = .ok (.bipush 120, 2) := by decide +kernel
theorem dX5_days_107 : decode cX5_days 107 = .ok (.if_icmp .ne 8, 3) := by decide +kernel
theorem dX5_days_110 : decode cX5_days 110 = .ok (.aload_n 0, 1) := by decide +kernel
theorem dX5_days_111 : decode cX5_days 111 = .ok (.iload_n 2, 1) := by decide +kernel
theorem dX5_days_112 : decode cX5_days 112 = .ok (.invokevirtual 144, 3) := by decide +kernel
theorem dX5_days_115 : decode cX5_days 115 = .ok (.iinc 2 1, 3) := by decide +kernel
theorem dX5_days_118 : decode cX5_days 118 = .ok (.goto (-77), 3) := by decide +kernel
theorem dX5_days_121 : decode cX5_days 121 = .ok (.aload_n 0, 1) := by decide +kernel
theorem dX5_days_122 : decode cX5_days 122 = .ok (.getfield 32, 3) := by decide +kernel
theorem dX5_days_125 : decode cX5_days 125 = .ok (.iconst 0, 1) := by decide +kernel
theorem dX5_days_126 : decode cX5_days 126 = .ok (.putfield 114, 3) := by decide +kernel
theorem dX5_days_129 : decode cX5_days 129 = .ok (.aload_n 0, 1) := by decide +kernel
theorem dX5_days_130 : decode cX5_days 130 = .ok (.getfield 10, 3) := by decide +kernel
theorem dX5_days_133 : decode cX5_days 133 = .ok (.invokevirtual 141, 3) := by decide +kernel
theorem dX5_days_136 : decode cX5_days 136 = .ok (.iload_n 1, 1) := by decide +kernel
theorem dX5_days_137 : decode cX5_days 137 = .ok (.isub, 1) := by decide +kernel
theorem dX5_days_138 : decode cX5_days 138 = .ok (.ireturn, 1) := by decide +kernel
theorem dX5_why_0 : decode cX5_why 0 = .ok (.iload_n 1, 1) := by decide +kernel
theorem dX5_why_1 : decode cX5_why 1 = .ok (.ifCond .eq 10, 3) := by decide +kernel
theorem dX5_why_4 : decode cX5_why 4 = .ok (.iload_n 1, 1) := by decide +kernel
theorem dX5_why_5 : decode cX5_why 5 = .ok (.iconst 1, 1) := by decide +kernel
theorem dX5_why_6 : decode cX5_why 6 = .ok (.if_icmp .eq 5, 3) := by decide +kernel
theorem dX5_why_9 : decode cX5_why 9 = .ok (.iconst (-1), 1) := by decide +kernel
theorem dX5_why_10 : decode cX5_why 10 = .ok (.ireturn, 1) := by decide +kernel
theorem dX5_why_11 : decode cX5_why 11 = .ok (.aload_n 0, 1) := by decide +kernel
theorem dX5_why_12 : decode cX5_why 12 = .ok (.getfield 50, 3) := by decide +kernel
theorem dX5_why_15 : decode cX5_why 15 = .ok (.iconst (-1), 1) := by decide +kernel
theorem dX5_why_16 : decode cX5_why 16 = .ok (.if_icmp .ne 6, 3) := by decide +kernel
theorem dX5_why_19 : decode cX5_why 19 = .ok (.bipush (-4), 2) := by decide +kernel
theorem dX5_why_21 : decode cX5_why 21 = .ok (.ireturn, 1) := by decide +kernel
theorem dX5_why_22 : decode cX5_why 22 = .ok (.iload_n 1, 1) := by decide +kernel
theorem dX5_why_23 : decode cX5_why 23 = .ok (.ifCond .ne 10, 3) := by decide +kernel
theorem dX5_why_26 : decode cX5_why 26 = .ok (.aload_n 0, 1) := by decide +kernel
theorem dX5_why_27 : decode cX5_why 27 = .ok (.getfield 147, 3) := by decide +kernel
theorem dX5_why_30 : decode cX5_why 30 = .ok (.goto 7, 3) := by decide +kernel
theorem dX5_why_33 : decode cX5_why 33 = .ok (.aload_n 0, 1) := by decide +kernel
theorem dX5_why_34 : decode cX5_why 34 = .ok (.getfield 50, 3) := by decide +kernel
theorem dX5_why_37 : decode cX5_why 37 = .ok (.ireturn, 1) := by decide +kernel
theorem dX5_trader_0 : decode cX5_trader 0 = .ok (.aload_n 0, 1) := by decide +kernel
theorem dX5_trader_1 : decode cX5_trader 1 = .ok (.getfield 10, 3) := by decide +kernel
theorem dX5_trader_4 : decode cX5_trader 4 = .ok (.iload_n 1, 1) := by decide +kernel
theorem dX5_trader_5 : decode cX5_trader 5 = .ok (.invokevirtual 72, 3) := by decide +kernel
theorem dX5_trader_8 : decode cX5_trader 8 = .ok (.ifCond .ne 5, 3) := by decide +kernel
theorem dX5_trader_11 : decode cX5_trader 11 = .ok (.iconst (-1), 1) := by decide +kernel
theorem dX5_trader_12 : decode cX5_trader 12 = .ok (.ireturn, 1) := by decide +kernel
theorem dX5_trader_13 : decode cX5_trader 13 = .ok (.iload_n 2, 1) := by decide +kernel
theorem dX5_trader_14 : decode cX5_trader 14 = .ok (.tableswitch 205 0 9 #[54, 64, 74, 100, 126, 151, 168, 178, 190, 199], 54) := by decide +kernel
theorem dX5_trader_68 : decode cX5_trader 68 = .ok (.aload_n 0, 1) := by decide +kernel
theorem dX5_trader_69 : decode cX5_trader 69 = .ok (.getfield 10, 3) := by decide +kernel
theorem dX5_trader_72 : decode cX5_trader 72 = .ok (.getfield 150, 3) := by decide +kernel
theorem dX5_trader_75 : decode cX5_trader 75 = .ok (.iload_n 1, 1) := by decide +kernel
theorem dX5_trader_76 : decode cX5_trader 76 = .ok (.iaload, 1) := by decide +kernel
theorem dX5_trader_77 : decode cX5_trader 77 = .ok (.ireturn, 1) := by decide +kernel
theorem dX5_trader_78 : decode cX5_trader 78 = .ok (.aload_n 0, 1) := by decide +kernel
theorem dX5_trader_79 : decode cX5_trader 79 = .ok (.getfield 10, 3) := by decide +kernel
theorem dX5_trader_82 : decode cX5_trader 82 = .ok (.getfield 83, 3) := by decide +kernel
theorem dX5_trader_85 : decode cX5_trader 85 = .ok (.iload_n 1, 1) := by decide +kernel
theorem dX5_trader_86 : decode cX5_trader 86 = .ok (.iaload, 1) := by decide +kernel
theorem dX5_trader_87 : decode cX5_trader 87 = .ok (.ireturn, 1) := by decide +kernel
theorem dX5_trader_88 : decode cX5_trader 88 = .ok (.aload_n 0, 1) := by decide +kernel
theorem dX5_trader_89 : decode cX5_trader 89 = .ok (.getfield 10, 3) := by decide +kernel
theorem dX5_trader_92 : decode cX5_trader 92 = .ok (.iload_n 1, 1) := by decide +kernel
theorem dX5_trader_93 : decode cX5_trader 93 = .ok (.invokevirtual 153, 3) := by decide +kernel
theorem dX5_trader_96 : decode cX5_trader 96 = .ok (.ifCond .eq 15, 3) := by decide +kernel
theorem dX5_trader_99 : decode cX5_trader 99 = .ok (.aload_n 0, 1) := by decide +kernel
theorem dX5_trader_100 : decode cX5_trader 100 = .ok (.getfield 10, 3) := by decide +kernel
theorem dX5_trader_103 : decode cX5_trader 103 = .ok (.getfield 156, 3) := by decide +kernel
theorem dX5_trader_106 : decode cX5_trader 106 = .ok (.iload_n 1, 1) := by decide +kernel
theorem dX5_trader_107 : decode cX5_trader 107 = .ok (.iaload, 1) := by decide +kernel
theorem dX5_trader_108 : decode cX5_trader 108 = .ok (.goto 5, 3) := by decide +kernel
theorem dX5_trader_111 : decode cX5_trader 111 = .ok (.bipush (-4), 2) := by decide +kernel
theorem dX5_trader_113 : decode cX5_trader 113 = .ok (.ireturn, 1) := by decide +kernel
theorem dX5_trader_114 : decode cX5_trader 114 = .ok (.aload_n 0, 1) := by decide +kernel
theorem dX5_trader_115 : decode cX5_trader 115 = .ok (.getfield 10, 3) := by decide +kernel
theorem dX5_trader_118 : decode cX5_trader 118 = .ok (.iload_n 1, 1) := by decide +kernel
theorem dX5_trader_119 : decode cX5_trader 119 = .ok (.invokevirtual 153, 3) := by decide +kernel
theorem dX5_trader_122 : decode cX5_trader 122 = .ok (.ifCond .eq 15, 3) := by decide +kernel
theorem dX5_trader_125 : decode cX5_trader 125 = .ok (.aload_n 0, 1) := by decide +kernel
theorem dX5_trader_126 : decode cX5_trader 126 = .ok (.getfield 10, 3) := by decide +kernel
theorem dX5_trader_129 : decode cX5_trader 129 = .ok (.getfield 159, 3) := by decide +kernel
theorem dX5_trader_132 : decode cX5_trader 132 = .ok (.iload_n 1, 1) := by decide +kernel
theorem dX5_trader_133 : decode cX5_trader 133 = .ok (.iaload, 1) := by decide +kernel
theorem dX5_trader_134 : decode cX5_trader 134 = .ok (.goto 5, 3) := by decide +kernel
theorem dX5_trader_137 : decode cX5_trader 137 = .ok (.bipush (-4), 2) := by decide +kernel
theorem dX5_trader_139 : decode cX5_trader 139 = .ok (.ireturn, 1) := by decide +kernel
theorem dX5_trader_140 : decode cX5_trader 140 = .ok (.aload_n 0, 1) := by decide +kernel
theorem dX5_trader_141 : decode cX5_trader 141 = .ok (.getfield 10, 3) := by decide +kernel
theorem dX5_trader_144 : decode cX5_trader 144 = .ok (.iload_n 1, 1) := by decide +kernel
theorem dX5_trader_145 : decode cX5_trader 145 = .ok (.invokevirtual 153, 3) := by decide +kernel
theorem dX5_trader_148 : decode cX5_trader 148 = .ok (.ifCond .eq 14, 3) := by decide +kernel
theorem dX5_trader_151 : decode cX5_trader 151 = .ok (.aload_n 0, 1) := by decide +kernel
theorem dX5_trader_152 : decode cX5_trader 152 = .ok (.getfield 10, 3) := by decide +kernel
theorem dX5_trader_155 : decode cX5_trader 155 = .ok (.iload_n 1, 1) := by decide +kernel
theorem dX5_trader_156 : decode cX5_trader 156 = .ok (.invokevirtual 162, 3) := by decide +kernel
theorem dX5_trader_159 : decode cX5_trader 159 = .ok (.goto 5, 3) := by decide +kernel
theorem dX5_trader_162 : decode cX5_trader 162 = .ok (.bipush (-4), 2) := by decide +kernel
theorem dX5_trader_164 : decode cX5_trader 164 = .ok (.ireturn, 1) := by decide +kernel
theorem dX5_trader_165 : decode cX5_trader 165 = .ok (.aload_n 0, 1) := by decide +kernel
theorem dX5_trader_166 : decode cX5_trader 166 = .ok (.getfield 10, 3) := by decide +kernel
theorem dX5_trader_169 : decode cX5_trader 169 = .ok (.getfield 165, 3) := by decide +kernel
theorem dX5_trader_172 : decode cX5_trader 172 = .ok (.iload_n 1, 1) := by decide +kernel
theorem dX5_trader_173 : decode cX5_trader 173 = .ok (.if_icmp .ne 7, 3) := by decide +kernel
theorem dX5_trader_176 : decode cX5_trader 176 = .ok (.iconst 1, 1) := by decide +kernel
theorem dX5_trader_177 : decode cX5_trader 177 = .ok (.goto 4, 3) := by decide +kernel
theorem dX5_trader_180 : decode cX5_trader 180 = .ok (.iconst 0, 1) := by decide +kernel
theorem dX5_trader_181 : decode cX5_trader 181 = .ok (.ireturn, 1) := by decide +kernel
theorem dX5_trader_182 : decode cX5_trader 182 = .ok (.aload_n 0, 1) := by decide +kernel
theorem dX5_trader_183 : decode cX5_trader 183 = .ok (.getfield 10, 3) := by decide +kernel
theorem dX5_trader_186 : decode cX5_trader 186 = .ok (.getfield 75, 3) := by decide +kernel
theorem dX5_trader_189 : decode cX5_trader 189 = .ok (.iload_n 1, 1) := by decide +kernel
theorem dX5_trader_190 : decode cX5_trader 190 = .ok (.iaload, 1) := by decide +kernel
theorem dX5_trader_191 : decode cX5_trader 191 = .ok (.ireturn, 1) := by decide +kernel
theorem dX5_trader_192 : decode cX5_trader 192 = .ok (.aload_n 0, 1) := by decide +kernel
theorem dX5_trader_193 : decode cX5_trader 193 = .ok (.getfield 10, 3) := by decide +kernel
theorem dX5_trader_196 : decode cX5_trader 196 = .ok (.iload_n 1, 1) := by decide +kernel
theorem dX5_trader_197 : decode cX5_trader 197 = .ok (.invokevirtual 168, 3) := by decide +kernel
theorem dX5_trader_200 : decode cX5_trader 200 = .ok (.invokestatic 171, 3) := by decide +kernel
theorem dX5_trader_203 : decode cX5_trader 203 = .ok (.ireturn, 1) := by decide +kernel
theorem dX5_trader_204 : decode cX5_trader 204 = .ok (.aload_n 0, 1) := by decide +kernel
theorem dX5_trader_205 : decode cX5_trader 205 = .ok (.getfield 10, 3) := by decide +kernel
theorem dX5_trader_208 : decode cX5_trader 208 = .ok (.iload_n 1, 1) := by decide +kernel
theorem dX5_trader_209 : decode cX5_trader 209 = .ok (.invokevirtual 176, 3) := by decide +kernel
theorem dX5_trader_212 : decode cX5_trader 212 = .ok (.ireturn, 1) := by decide +kernel
theorem dX5_trader_213 : decode cX5_trader 213 = .ok (.aload_n 0, 1) := by decide +kernel
theorem dX5_trader_214 : decode cX5_trader 214 = .ok (.iload_n 1, 1) := by decide +kernel
theorem dX5_trader_215 : decode cX5_trader 215 = .ok (.invokevirtual 179, 3) := by decide +kernel
theorem dX5_trader_218 : decode cX5_trader 218 = .ok (.ireturn, 1) := by decide +kernel
theorem dX5_trader_219 : decode cX5_trader 219 = .ok (.iconst (-1), 1) := by decide +kernel
theorem dX5_trader_220 : decode cX5_trader 220 = .ok (.ireturn, 1) := by decide +kernel
theorem dX5_can_0 : decode cX5_can 0 = .ok (.aload_n 0, 1) := by decide +kernel
theorem dX5_can_1 : decode cX5_can 1 = .ok (.getfield 10, 3) := by decide +kernel
theorem dX5_can_4 : decode cX5_can 4 = .ok (.iload_n 1, 1) := by decide +kernel
theorem dX5_can_5 : decode cX5_can 5 = .ok (.iload_n 2, 1) := by decide +kernel
theorem dX5_can_6 : decode cX5_can 6 = .ok (.invokevirtual 98, 3) := by decide +kernel
theorem dX5_can_9 : decode cX5_can 9 = .ok (.ifCond .ne 5, 3) := by decide +kernel
theorem dX5_can_12 : decode cX5_can 12 = .ok (.iconst (-1), 1) := by decide +kernel
theorem dX5_can_13 : decode cX5_can 13 = .ok (.ireturn, 1) := by decide +kernel
theorem dX5_can_14 : decode cX5_can 14 = .ok (.aload_n 0, 1) := by decide +kernel
theorem dX5_can_15 : decode cX5_can 15 = .ok (.getfield 10, 3) := by decide +kernel
theorem dX5_can_18 : decode cX5_can 18 = .ok (.iload_n 1, 1) := by decide +kernel
theorem dX5_can_19 : decode cX5_can 19 = .ok (.iload_n 2, 1) := by decide +kernel
theorem dX5_can_20 : decode cX5_can 20 = .ok (.invokevirtual 182, 3) := by decide +kernel
theorem dX5_can_23 : decode cX5_can 23 = .ok (.ifCond .eq 7, 3) := by decide +kernel
theorem dX5_can_26 : decode cX5_can 26 = .ok (.iconst 1, 1) := by decide +kernel
theorem dX5_can_27 : decode cX5_can 27 = .ok (.goto 4, 3) := by decide +kernel
theorem dX5_can_30 : decode cX5_can 30 = .ok (.iconst 0, 1) := by decide +kernel
theorem dX5_can_31 : decode cX5_can 31 = .ok (.ireturn, 1) := by decide +kernel
theorem dX5_whyNot_0 : decode cX5_whyNot 0 = .ok (.aload_n 0, 1) := by decide +kernel
theorem dX5_whyNot_1 : decode cX5_whyNot 1 = .ok (.getfield 10, 3) := by decide +kernel
theorem dX5_whyNot_4 : decode cX5_whyNot 4 = .ok (.iload_n 1, 1) := by decide +kernel
theorem dX5_whyNot_5 : decode cX5_whyNot 5 = .ok (.iload_n 2, 1) := by decide +kernel
theorem dX5_whyNot_6 : decode cX5_whyNot 6 = .ok (.invokevirtual 98, 3) := by decide +kernel
theorem dX5_whyNot_9 : decode cX5_whyNot 9 = .ok (.ifCond .eq 15, 3) := by decide +kernel
theorem dX5_whyNot_12 : decode cX5_whyNot 12 = .ok (.aload_n 0, 1) := by decide +kernel
theorem dX5_whyNot_13 : decode cX5_whyNot 13 = .ok (.getfield 10, 3) := by decide +kernel
theorem dX5_whyNot_16 : decode cX5_whyNot 16 = .ok (.iload_n 1, 1) := by decide +kernel
theorem dX5_whyNot_17 : decode cX5_whyNot 17 = .ok (.iload_n 2, 1) := by decide +kernel
theorem dX5_whyNot_18 : decode cX5_whyNot 18 = .ok (.invokevirtual 185, 3) := by decide +kernel
theorem dX5_whyNot_21 : decode cX5_whyNot 21 = .ok (.goto 4, 3) := by decide +kernel
theorem dX5_whyNot_24 : decode cX5_whyNot 24 = .ok (.iconst (-1), 1) := by decide +kernel
theorem dX5_whyNot_25 : decode cX5_whyNot 25 = .ok (.ireturn, 1) := by decide +kernel
theorem dX5_most_0 : decode cX5_most 0 = .ok (.iload_n 1, 1) := by decide +kernel
theorem dX5_most_1 : decode cX5_most 1 = .ok (.lookupswitch 58 #[(0, 27), (1, 46)], 27) := by decide +kernel
theorem dX5_most_28 : decode cX5_most 28 = .ok (.aload_n 0, 1) := by decide +kernel
theorem dX5_most_29 : decode cX5_most 29 = .ok (.getfield 39, 3) := by decide +kernel
theorem dX5_most_32 : decode cX5_most 32 = .ok (.aload_n 0, 1) := by decide +kernel
theorem dX5_most_33 : decode cX5_most 33 = .ok (.getfield 10, 3) := by decide +kernel
theorem dX5_most_36 : decode cX5_most 36 = .ok (.aload_n 0, 1) := by decide +kernel
theorem dX5_most_37 : decode cX5_most 37 = .ok (.getfield 10, 3) := by decide +kernel
theorem dX5_most_40 : decode cX5_most 40 = .ok (.getfield 92, 3) := by decide +kernel
theorem dX5_most_43 : decode cX5_most 43 = .ok (.invokevirtual 188, 3) := by decide +kernel
theorem dX5_most_46 : decode cX5_most 46 = .ok (.ireturn, 1) := by decide +kernel
theorem dX5_most_47 : decode cX5_most 47 = .ok (.aload_n 0, 1) := by decide +kernel
theorem dX5_most_48 : decode cX5_most 48 = .ok (.getfield 46, 3) := by decide +kernel
theorem dX5_most_51 : decode cX5_most 51 = .ok (.aload_n 0, 1) := by decide +kernel
theorem dX5_most_52 : decode cX5_most 52 = .ok (.getfield 10, 3) := by decide +kernel
theorem dX5_most_55 : decode cX5_most 55 = .ok (.invokevirtual 192, 3) := by decide +kernel
theorem dX5_most_58 : decode cX5_most 58 = .ok (.ireturn, 1) := by decide +kernel
theorem dX5_most_59 : decode cX5_most 59 = .ok (.iconst (-1), 1) := by decide +kernel
theorem dX5_most_60 : decode cX5_most 60 = .ok (.ireturn, 1) := by decide +kernel
theorem dX5_kind_0 : decode cX5_kind 0 = .ok (.iload_n 1, 1) := by decide +kernel
theorem dX5_kind_1 : decode cX5_kind 1 = .ok (.invokestatic 54, 3) := by decide +kernel
theorem dX5_kind_4 : decode cX5_kind 4 = .ok (.ifCond .ne 5, 3) := by decide +kernel
theorem dX5_kind_7 : decode cX5_kind 7 = .ok (.iconst (-1), 1) := by decide +kernel
theorem dX5_kind_8 : decode cX5_kind 8 = .ok (.ireturn, 1) := by decide +kernel
theorem dX5_kind_9 : decode cX5_kind 9 = .ok (.iload_n 2, 1) := by decide +kernel
theorem dX5_kind_10 : decode cX5_kind 10 = .ok (.tableswitch 103 0 5 #[38, 48, 57, 75, 84, 93], 38) := by decide +kernel
theorem dX5_kind_48 : decode cX5_kind 48 = .ok (.aload_n 0, 1) := by decide +kernel
theorem dX5_kind_49 : decode cX5_kind 49 = .ok (.getfield 10, 3) := by decide +kernel
theorem dX5_kind_52 : decode cX5_kind 52 = .ok (.getfield 86, 3) := by decide +kernel
theorem dX5_kind_55 : decode cX5_kind 55 = .ok (.iload_n 1, 1) := by decide +kernel
theorem dX5_kind_56 : decode cX5_kind 56 = .ok (.iaload, 1) := by decide +kernel
theorem dX5_kind_57 : decode cX5_kind 57 = .ok (.ireturn, 1) := by decide +kernel
theorem dX5_kind_58 : decode cX5_kind 58 = .ok (.aload_n 0, 1) := by decide +kernel
theorem dX5_kind_59 : decode cX5_kind 59 = .ok (.getfield 10, 3) := by decide +kernel
theorem dX5_kind_62 : decode cX5_kind 62 = .ok (.iload_n 1, 1) := by decide +kernel
theorem dX5_kind_63 : decode cX5_kind 63 = .ok (.invokevirtual 195, 3) := by decide +kernel
theorem dX5_kind_66 : decode cX5_kind 66 = .ok (.ireturn, 1) := by decide +kernel
theorem dX5_kind_67 : decode cX5_kind 67 = .ok (.aload_n 0, 1) := by decide +kernel
theorem dX5_kind_68 : decode cX5_kind 68 = .ok (.getfield 10, 3) := by decide +kernel
theorem dX5_kind_71 : decode cX5_kind 71 = .ok (.iload_n 1, 1) := by decide +kernel
theorem dX5_kind_72 : decode cX5_kind 72 = .ok (.invokevirtual 195, 3) := by decide +kernel
theorem dX5_kind_75 : decode cX5_kind 75 = .ok (.aload_n 0, 1) := by decide +kernel
theorem dX5_kind_76 : decode cX5_kind 76 = .ok (.getfield 10, 3) := by decide +kernel
theorem dX5_kind_79 : decode cX5_kind 79 = .ok (.iload_n 1, 1) := by decide +kernel
theorem dX5_kind_80 : decode cX5_kind 80 = .ok (.invokevirtual 198, 3) := by decide +kernel
theorem dX5_kind_83 : decode cX5_kind 83 = .ok (.isub, 1) := by decide +kernel
theorem dX5_kind_84 : decode cX5_kind 84 = .ok (.ireturn, 1) := by decide +kernel
theorem dX5_kind_85 : decode cX5_kind 85 = .ok (.aload_n 0, 1) := by decide +kernel
theorem dX5_kind_86 : decode cX5_kind 86 = .ok (.getfield 10, 3) := by decide +kernel
theorem dX5_kind_89 : decode cX5_kind 89 = .ok (.iload_n 1, 1) := by decide +kernel
theorem dX5_kind_90 : decode cX5_kind 90 = .ok (.invokevirtual 201, 3) := by decide +kernel
theorem dX5_kind_93 : decode cX5_kind 93 = .ok (.ireturn, 1) := by decide +kernel
theorem dX5_kind_94 : decode cX5_kind 94 = .ok (.aload_n 0, 1) := by decide +kernel
theorem dX5_kind_95 : decode cX5_kind 95 = .ok (.getfield 10, 3) := by decide +kernel
theorem dX5_kind_98 : decode cX5_kind 98 = .ok (.iload_n 1, 1) := by decide +kernel
theorem dX5_kind_99 : decode cX5_kind 99 = .ok (.invokevirtual 204, 3) := by decide +kernel
theorem dX5_kind_102 : decode cX5_kind 102 = .ok (.ireturn, 1) := by decide +kernel
theorem dX5_kind_103 : decode cX5_kind 103 = .ok (.aload_n 0, 1) := by decide +kernel
theorem dX5_kind_104 : decode cX5_kind 104 = .ok (.getfield 10, 3) := by decide +kernel
theorem dX5_kind_107 : decode cX5_kind 107 = .ok (.getfield 207, 3) := by decide +kernel
theorem dX5_kind_110 : decode cX5_kind 110 = .ok (.iload_n 1, 1) := by decide +kernel
theorem dX5_kind_111 : decode cX5_kind 111 = .ok (.iaload, 1) := by decide +kernel
theorem dX5_kind_112 : decode cX5_kind 112 = .ok (.ireturn, 1) := by decide +kernel
theorem dX5_kind_113 : decode cX5_kind 113 = .ok (.iconst (-1), 1) := by decide +kernel
theorem dX5_kind_114 : decode cX5_kind 114 = .ok (.ireturn, 1) := by decide +kernel
theorem dX5_count_0 : decode cX5_count 0 = .ok (.iload_n 1, 1) := by decide +kernel
theorem dX5_count_1 : decode cX5_count 1 = .ok (.tableswitch 223 0 15 #[79, 87, 95, 103, 111, 119, 127, 135, 143, 151, 159, 167, 175, 183, 207, 215], 79) := by decide +kernel
theorem dX5_count_80 : decode cX5_count 80 = .ok (.aload_n 0, 1) := by decide +kernel
theorem dX5_count_81 : decode cX5_count 81 = .ok (.getfield 10, 3) := by decide +kernel
theorem dX5_count_84 : decode cX5_count 84 = .ok (.getfield 210, 3) := by decide +kernel
theorem dX5_count_87 : decode cX5_count 87 = .ok (.ireturn, 1) := by decide +kernel
theorem dX5_count_88 : decode cX5_count 88 = .ok (.aload_n 0, 1) := by decide +kernel
theorem dX5_count_89 : decode cX5_count 89 = .ok (.getfield 10, 3) := by decide +kernel
theorem dX5_count_92 : decode cX5_count 92 = .ok (.getfield 61, 3) := by decide +kernel
theorem dX5_count_95 : decode cX5_count 95 = .ok (.ireturn, 1) := by decide +kernel
theorem dX5_count_96 : decode cX5_count 96 = .ok (.aload_n 0, 1) := by decide +kernel
theorem dX5_count_97 : decode cX5_count 97 = .ok (.getfield 10, 3) := by decide +kernel
theorem dX5_count_100 : decode cX5_count 100 = .ok (.invokevirtual 213, 3) := by decide +kernel
theorem dX5_count_103 : decode cX5_count 103 = .ok (.ireturn, 1) := by decide +kernel
theorem dX5_count_104 : decode cX5_count 104 = .ok (.aload_n 0, 1) := by decide +kernel
theorem dX5_count_105 : decode cX5_count 105 = .ok (.getfield 10, 3) := by decide +kernel
theorem dX5_count_108 : decode cX5_count 108 = .ok (.invokevirtual 141, 3) := by decide +kernel
theorem dX5_count_111 : decode cX5_count 111 = .ok (.ireturn, 1) := by decide +kernel
theorem dX5_count_112 : decode cX5_count 112 = .ok (.aload_n 0, 1) := by decide +kernel
theorem dX5_count_113 : decode cX5_count 113 = .ok (.getfield 10, 3) := by decide +kernel
theorem dX5_count_116 : decode cX5_count 116 = .ok (.invokevirtual 216, 3) := by decide +kernel
theorem dX5_count_119 : decode cX5_count 119 = .ok (.ireturn, 1) := by decide +kernel
theorem dX5_count_120 : decode cX5_count 120 = .ok (.aload_n 0, 1) := by decide +kernel
theorem dX5_count_121 : decode cX5_count 121 = .ok (.getfield 10, 3) := by decide +kernel
theorem dX5_count_124 : decode cX5_count 124 = .ok (.invokevirtual 219, 3) := by decide +kernel
theorem dX5_count_127 : decode cX5_count 127 = .ok (.ireturn, 1) := by decide +kernel
theorem dX5_count_128 : decode cX5_count 128 = .ok (.aload_n 0, 1) := by decide +kernel
theorem dX5_count_129 : decode cX5_count 129 = .ok (.getfield 10, 3) := by decide +kernel
theorem dX5_count_132 : decode cX5_count 132 = .ok (.getfield 222, 3) := by decide +kernel
theorem dX5_count_135 : decode cX5_count 135 = .ok (.ireturn, 1) := by decide +kernel
theorem dX5_count_136 : decode cX5_count 136 = .ok (.aload_n 0, 1) := by decide +kernel
theorem dX5_count_137 : decode cX5_count 137 = .ok (.getfield 10, 3) := by decide +kernel
theorem dX5_count_140 : decode cX5_count 140 = .ok (.getfield 225, 3) := by decide +kernel
theorem dX5_count_143 : decode cX5_count 143 = .ok (.ireturn, 1) := by decide +kernel
theorem dX5_count_144 : decode cX5_count 144 = .ok (.aload_n 0, 1) := by decide +kernel
theorem dX5_count_145 : decode cX5_count 145 = .ok (.getfield 10, 3) := by decide +kernel
theorem dX5_count_148 : decode cX5_count 148 = .ok (.getfield 228, 3) := by decide +kernel
theorem dX5_count_151 : decode cX5_count 151 = .ok (.ireturn, 1) := by decide +kernel
theorem dX5_count_152 : decode cX5_count 152 = .ok (.aload_n 0, 1) := by decide +kernel
theorem dX5_count_153 : decode cX5_count 153 = .ok (.getfield 10, 3) := by decide +kernel
theorem dX5_count_156 : decode cX5_count 156 = .ok (.getfield 231, 3) := by decide +kernel
theorem dX5_count_159 : decode cX5_count 159 = .ok (.ireturn, 1) := by decide +kernel
theorem dX5_count_160 : decode cX5_count 160 = .ok (.aload_n 0, 1) := by decide +kernel
theorem dX5_count_161 : decode cX5_count 161 = .ok (.getfield 10, 3) := by decide +kernel
theorem dX5_count_164 : decode cX5_count 164 = .ok (.invokevirtual 234, 3) := by decide +kernel
theorem dX5_count_167 : decode cX5_count 167 = .ok (.ireturn, 1) := by decide +kernel
theorem dX5_count_168 : decode cX5_count 168 = .ok (.aload_n 0, 1) := by decide +kernel
theorem dX5_count_169 : decode cX5_count 169 = .ok (.getfield 10, 3) := by decide +kernel
theorem dX5_count_172 : decode cX5_count 172 = .ok (.getfield 92, 3) := by decide +kernel
theorem dX5_count_175 : decode cX5_count 175 = .ok (.ireturn, 1) := by decide +kernel
theorem dX5_count_176 : decode cX5_count 176 = .ok (.aload_n 0, 1) := by decide +kernel
theorem dX5_count_177 : decode cX5_count 177 = .ok (.getfield 10, 3) := by decide +kernel
theorem dX5_count_180 : decode cX5_count 180 = .ok (.getfield 95, 3) := by decide +kernel
theorem dX5_count_183 : decode cX5_count 183 = .ok (.ireturn, 1) := by decide +kernel
theorem dX5_count_184 : decode cX5_count 184 = .ok (.aload_n 0, 1) := by decide +kernel
theorem dX5_count_185 : decode cX5_count 185 = .ok (.getfield 10, 3) := by decide +kernel
theorem dX5_count_188 : decode cX5_count 188 = .ok (.getfield 165, 3) := by decide +kernel
theorem dX5_count_191 : decode cX5_count 191 = .ok (.iconst (-1), 1) := by decide +kernel
theorem dX5_count_192 : decode cX5_count 192 = .ok (.if_icmp .ne 8, 3) := by decide +kernel
theorem dX5_count_195 : decode cX5_count 195 = .ok (.bipush (-4), 2) := by decide +kernel
theorem dX5_count_197 : decode cX5_count 197 = .ok (.goto 10, 3) := by decide +kernel
theorem dX5_count_200 : decode cX5_count 200 = .ok (.aload_n 0, 1) := by decide +kernel
theorem dX5_count_201 : decode cX5_count 201 = .ok (.getfield 10, 3) := by decide +kernel
theorem dX5_count_204 : decode cX5_count 204 = .ok (.getfield 165, 3) := by decide +kernel
theorem dX5_count_207 : decode cX5_count 207 = .ok (.ireturn, 1) := by decide +kernel
theorem dX5_count_208 : decode cX5_count 208 = .ok (.aload_n 0, 1) := by decide +kernel
theorem dX5_count_209 : decode cX5_count 209 = .ok (.getfield 32, 3) := by decide +kernel
theorem dX5_count_212 : decode cX5_count 212 = .ok (.getfield 114, 3) := by decide +kernel
theorem dX5_count_215 : decode cX5_count 215 = .ok (.ireturn, 1) := by decide +kernel
theorem dX5_count_216 : decode cX5_count 216 = .ok (.aload_n 0, 1) := by decide +kernel
theorem dX5_count_217 : decode cX5_count 217 = .ok (.getfield 25, 3) := by decide +kernel
theorem dX5_count_220 : decode cX5_count 220 = .ok (.getfield 237, 3) := by decide +kernel
theorem dX5_count_223 : decode cX5_count 223 = .ok (.ireturn, 1) := by decide +kernel
theorem dX5_count_224 : decode cX5_count 224 = .ok (.iconst (-1), 1) := by decide +kernel
theorem dX5_count_225 : decode cX5_count 225 = .ok (.ireturn, 1) := by decide +kernel
theorem dX5_freshness_0 : decode cX5_freshness 0 = .ok (.aload_n 0, 1) := by decide +kernel
theorem dX5_freshness_1 : decode cX5_freshness 1 = .ok (.getfield 10, 3) := by decide +kernel
theorem dX5_freshness_4 : decode cX5_freshness 4 = .ok (.invokevirtual 216, 3) := by decide +kernel
theorem dX5_freshness_7 : decode cX5_freshness 7 = .ok (.istore_n 1, 1) := by decide +kernel
theorem dX5_freshness_8 : decode cX5_freshness 8 = .ok (.iload_n 1, 1) := by decide +kernel
theorem dX5_freshness_9 : decode cX5_freshness 9 = .ok (.ifCond .le 17, 3) := by decide +kernel
theorem dX5_freshness_12 : decode cX5_freshness 12 = .ok (.aload_n 0, 1) := by decide +kernel
theorem dX5_freshness_13 : decode cX5_freshness 13 = .ok (.getfield 10, 3) := by decide +kernel
theorem dX5_freshness_16 : decode cX5_freshness 16 = .ok (.invokevirtual 240, 3) := by decide +kernel
theorem dX5_freshness_19 : decode cX5_freshness 19 = .ok (.i2d, 1) := by decide +kernel
theorem dX5_freshness_20 : decode cX5_freshness 20 = .ok (.iload_n 1, 1) := by decide +kernel
theorem dX5_freshness_21 : decode cX5_freshness 21 = .ok (.i2d, 1) := by decide +kernel
theorem dX5_freshness_22 : decode cX5_freshness 22 = .ok (.ddiv, 1) := by decide +kernel
theorem dX5_freshness_23 : decode cX5_freshness 23 = .ok (.goto 4, 3) := by decide +kernel
theorem dX5_freshness_26 : decode cX5_freshness 26 = .ok (.dconst 0, 1) := by decide +kernel
theorem dX5_freshness_27 : decode cX5_freshness 27 = .ok (.dreturn, 1) := by decide +kernel
theorem dX5_ifCircle_0 : decode cX5_ifCircle 0 = .ok (.iload_n 1, 1) := by decide +kernel
theorem dX5_ifCircle_1 : decode cX5_ifCircle 1 = .ok (.invokestatic 89, 3) := by decide +kernel
theorem dX5_ifCircle_4 : decode cX5_ifCircle 4 = .ok (.ifCond .eq 18, 3) := by decide +kernel
theorem dX5_ifCircle_7 : decode cX5_ifCircle 7 = .ok (.aload_n 0, 1) := by decide +kernel
theorem dX5_ifCircle_8 : decode cX5_ifCircle 8 = .ok (.getfield 39, 3) := by decide +kernel
theorem dX5_ifCircle_11 : decode cX5_ifCircle 11 = .ok (.aload_n 0, 1) := by decide +kernel
theorem dX5_ifCircle_12 : decode cX5_ifCircle 12 = .ok (.getfield 10, 3) := by decide +kernel
theorem dX5_ifCircle_15 : decode cX5_ifCircle 15 = .ok (.iload_n 1, 1) := by decide +kernel
theorem dX5_ifCircle_16 : decode cX5_ifCircle 16 = .ok (.invokevirtual 188, 3) := by decide +kernel
theorem dX5_ifCircle_19 : decode cX5_ifCircle 19 = .ok (.goto 4, 3) := by decide +kernel
theorem dX5_ifCircle_22 : decode cX5_ifCircle 22 = .ok (.iconst (-1), 1) := by decide +kernel
theorem dX5_ifCircle_23 : decode cX5_ifCircle 23 = .ok (.ireturn, 1) := by decide +kernel
theorem dX5_ifDays_0 : decode cX5_ifDays 0 = .ok (.iload_n 1, 1) := by decide +kernel
theorem dX5_ifDays_1 : decode cX5_ifDays 1 = .ok (.iconst 1, 1) := by decide +kernel
theorem dX5_ifDays_2 : decode cX5_ifDays 2 = .ok (.if_icmp .lt 18, 3) := by decide +kernel
theorem dX5_ifDays_5 : decode cX5_ifDays 5 = .ok (.iload_n 1, 1) := by decide +kernel
theorem dX5_ifDays_6 : decode cX5_ifDays 6 = .ok (.bipush 20, 2) := by decide +kernel
theorem dX5_ifDays_8 : decode cX5_ifDays 8 = .ok (.if_icmp .gt 12, 3) := by decide +kernel
theorem dX5_ifDays_11 : decode cX5_ifDays 11 = .ok (.iload_n 2, 1) := by decide +kernel
theorem dX5_ifDays_12 : decode cX5_ifDays 12 = .ok (.ifCond .lt 8, 3) := by decide +kernel
theorem dX5_ifDays_15 : decode cX5_ifDays 15 = .ok (.iload_n 2, 1) := by decide +kernel
theorem dX5_ifDays_16 : decode cX5_ifDays 16 = .ok (.iconst 2, 1) := by decide +kernel
theorem dX5_ifDays_17 : decode cX5_ifDays 17 = .ok (.if_icmp .le 5, 3) := by decide +kernel
theorem dX5_ifDays_20 : decode cX5_ifDays 20 = .ok (.iconst (-1), 1) := by decide +kernel
theorem dX5_ifDays_21 : decode cX5_ifDays 21 = .ok (.ireturn, 1) := by decide +kernel
theorem dX5_ifDays_22 : decode cX5_ifDays 22 = .ok (.aload_n 0, 1) := by decide +kernel
theorem dX5_ifDays_23 : decode cX5_ifDays 23 = .ok (.getfield 16, 3) := by decide +kernel
theorem dX5_ifDays_26 : decode cX5_ifDays 26 = .ok (.aload_n 0, 1) := by decide +kernel
theorem dX5_ifDays_27 : decode cX5_ifDays 27 = .ok (.getfield 10, 3) := by decide +kernel
theorem dX5_ifDays_30 : decode cX5_ifDays 30 = .ok (.invokevirtual 243, 3) := by decide +kernel
theorem dX5_ifDays_33 : decode cX5_ifDays 33 = .ok (.iconst 0, 1) := by decide +kernel
theorem dX5_ifDays_34 : decode cX5_ifDays 34 = .ok (.istore_n 3, 1) := by decide +kernel
theorem dX5_ifDays_35 : decode cX5_ifDays 35 = .ok (.iload_n 3, 1) := by decide +kernel
theorem dX5_ifDays_36 : decode cX5_ifDays 36 = .ok (.iload_n 1, 1) := by decide +kernel
theorem dX5_ifDays_37 : decode cX5_ifDays 37 = .ok (.if_icmp .ge 26, 3) := by decide +kernel
theorem dX5_ifDays_40 : decode cX5_ifDays 40 = .ok (.aload_n 0, 1) := by decide +kernel
theorem dX5_ifDays_41 : decode cX5_ifDays 41 = .ok (.aload_n 0, 1) := by decide +kernel
theorem dX5_ifDays_42 : decode cX5_ifDays 42 = .ok (.getfield 16, 3) := by decide +kernel
theorem dX5_ifDays_45 : decode cX5_ifDays 45 = .ok (.invokevirtual 106, 3) := by decide +kernel
theorem dX5_ifDays_48 : decode cX5_ifDays 48 = .ok (.pop, 1) := by decide +kernel
theorem dX5_ifDays_49 : decode cX5_ifDays 49 = .ok (.aload_n 0, 1) := by decide +kernel
theorem dX5_ifDays_50 : decode cX5_ifDays 50 = .ok (.getfield 16, 3) := by decide +kernel
theorem dX5_ifDays_53 : decode cX5_ifDays 53 = .ok (.invokevirtual 110, 3) := by decide +kernel
theorem dX5_ifDays_56 : decode cX5_ifDays 56 = .ok (.pop, 1) := by decide +kernel
theorem dX5_ifDays_57 : decode cX5_ifDays 57 = .ok (.iinc 3 1, 3) := by decide +kernel
theorem dX5_ifDays_60 : decode cX5_ifDays 60 = .ok (.goto (-25), 3) := by decide +kernel
theorem dX5_ifDays_63 : decode cX5_ifDays 63 = .ok (.iload_n 2, 1) := by decide +kernel
theorem dX5_ifDays_64 : decode cX5_ifDays 64 = .ok (.lookupswitch 60 #[(0, 28), (1, 44)], 28) := by decide +kernel
theorem dX5_ifDays_92 : decode cX5_ifDays 92 = .ok (.aload_n 0, 1) := by decide +kernel
theorem dX5_ifDays_93 : decode cX5_ifDays 93 = .ok (.getfield 16, 3) := by decide +kernel
theorem dX5_ifDays_96 : decode cX5_ifDays 96 = .ok (.invokevirtual 141, 3) := by decide +kernel
theorem dX5_ifDays_99 : decode cX5_ifDays 99 = .ok (.aload_n 0, 1) := by decide +kernel
theorem dX5_ifDays_100 : decode cX5_ifDays 100 = .ok (.getfield 10, 3) := by decide +kernel
theorem dX5_ifDays_103 : decode cX5_ifDays 103 = .ok (.invokevirtual 141, 3) := by decide +kernel
theorem dX5_ifDays_106 : decode cX5_ifDays 106 = .ok (.isub, 1) := by decide +kernel
theorem dX5_ifDays_107 : decode cX5_ifDays 107 = .ok (.ireturn, 1) := by decide +kernel
theorem dX5_ifDays_108 : decode cX5_ifDays 108 = .ok (.aload_n 0, 1) := by decide +kernel
theorem dX5_ifDays_109 : decode cX5_ifDays 109 = .ok (.getfield 16, 3) := by decide +kernel
theorem dX5_ifDays_112 : decode cX5_ifDays 112 = .ok (.getfield 222, 3) := by decide +kernel
theorem dX5_ifDays_115 : decode cX5_ifDays 115 = .ok (.aload_n 0, 1) := by decide +kernel
theorem dX5_ifDays_116 : decode cX5_ifDays 116 = .ok (.getfield 10, 3) := by decide +kernel
theorem dX5_ifDays_119 : decode cX5_ifDays 119 = .ok (.getfield 222, 3) := by decide +kernel
theorem dX5_ifDays_122 : decode cX5_ifDays 122 = .ok (.isub, 1) := by decide +kernel
theorem dX5_ifDays_123 : decode cX5_ifDays 123 = .ok (.ireturn, 1) := by decide +kernel
theorem dX5_ifDays_124 : decode cX5_ifDays 124 = .ok (.aload_n 0, 1) := by decide +kernel
theorem dX5_ifDays_125 : decode cX5_ifDays 125 = .ok (.getfield 16, 3) := by decide +kernel
theorem dX5_ifDays_128 : decode cX5_ifDays 128 = .ok (.invokevirtual 213, 3) := by decide +kernel
theorem dX5_ifDays_131 : decode cX5_ifDays 131 = .ok (.ireturn, 1) := by decide +kernel
theorem dX5_bestWant_0 : decode cX5_bestWant 0 = .ok (.aload_n 0, 1) := by decide +kernel
theorem dX5_bestWant_1 : decode cX5_bestWant 1 = .ok (.getfield 10, 3) := by decide +kernel
theorem dX5_bestWant_4 : decode cX5_bestWant 4 = .ok (.iload_n 1, 1) := by decide +kernel
theorem dX5_bestWant_5 : decode cX5_bestWant 5 = .ok (.invokevirtual 72, 3) := by decide +kernel
theorem dX5_bestWant_8 : decode cX5_bestWant 8 = .ok (.ifCond .ne 5, 3) := by decide +kernel
theorem dX5_bestWant_11 : decode cX5_bestWant 11 = .ok (.iconst (-1), 1) := by decide +kernel
theorem dX5_bestWant_12 : decode cX5_bestWant 12 = .ok (.ireturn, 1) := by decide +kernel
theorem dX5_bestWant_13 : decode cX5_bestWant 13 = .ok (.aload_n 0, 1) := by decide +kernel
theorem dX5_bestWant_14 : decode cX5_bestWant 14 = .ok (.getfield 16, 3) := by decide +kernel
theorem dX5_bestWant_17 : decode cX5_bestWant 17 = .ok (.aload_n 0, 1) := by decide +kernel
theorem dX5_bestWant_18 : decode cX5_bestWant 18 = .ok (.getfield 10, 3) := by decide +kernel
theorem dX5_bestWant_21 : decode cX5_bestWant 21 = .ok (.invokevirtual 243, 3) := by decide +kernel
theorem dX5_bestWant_24 : decode cX5_bestWant 24 = .ok (.aload_n 0, 1) := by decide +kernel
theorem dX5_bestWant_25 : decode cX5_bestWant 25 = .ok (.getfield 10, 3) := by decide +kernel
theorem dX5_bestWant_28 : decode cX5_bestWant 28 = .ok (.getfield 83, 3) := by decide +kernel
theorem dX5_bestWant_31 : decode cX5_bestWant 31 = .ok (.iload_n 1, 1) := by decide +kernel
theorem dX5_bestWant_32 : decode cX5_bestWant 32 = .ok (.iaload, 1) := by decide +kernel
theorem dX5_bestWant_33 : decode cX5_bestWant 33 = .ok (.istore_n 2, 1) := by decide +kernel
theorem dX5_bestWant_34 : decode cX5_bestWant 34 = .ok (.bipush (-4), 2) := by decide +kernel
theorem dX5_bestWant_36 : decode cX5_bestWant 36 = .ok (.istore_n 3, 1) := by decide +kernel
theorem dX5_bestWant_37 : decode cX5_bestWant 37 = .ok (.iconst (-1), 1) := by decide +kernel
theorem dX5_bestWant_38 : decode cX5_bestWant 38 = .ok (.istore 4, 2) := by decide +kernel
theorem dX5_bestWant_40 : decode cX5_bestWant 40 = .ok (.iconst 0, 1) := by decide +kernel
theorem dX5_bestWant_41 : decode cX5_bestWant 41 = .ok (.istore 5, 2) := by decide +kernel
theorem dX5_bestWant_43 : decode cX5_bestWant 43 = .ok (.iload 5, 2) := by decide +kernel
theorem dX5_bestWant_45 : decode cX5_bestWant 45 = .ok (.bipush 6, 2) := by decide +kernel
theorem dX5_bestWant_47 : decode cX5_bestWant 47 = .ok (.if_icmp .ge 67, 3) := by decide +kernel
theorem dX5_bestWant_50 : decode cX5_bestWant 50 = .ok (.iload_n 2, 1) := by decide +kernel
theorem dX5_bestWant_51 : decode cX5_bestWant 51 = .ok (.iload 5, 2) := by decide +kernel
theorem dX5_bestWant_53 : decode cX5_bestWant 53 = .ok (.invokestatic 246, 3) := by decide +kernel
theorem dX5_bestWant_56 : decode cX5_bestWant 56 = .ok (.ifCond .ne 52, 3) := by decide +kernel
theorem dX5_bestWant_59 : decode cX5_bestWant 59 = .ok (.aload_n 0, 1) := by decide +kernel
theorem dX5_bestWant_60 : decode cX5_bestWant 60 = .ok (.getfield 16, 3) := by decide +kernel
theorem dX5_bestWant_63 : decode cX5_bestWant 63 = .ok (.getfield 83, 3) := by decide +kernel
theorem dX5_bestWant_66 : decode cX5_bestWant 66 = .ok (.iload_n 1, 1) := by decide +kernel
theorem dX5_bestWant_67 : decode cX5_bestWant 67 = .ok (.iload_n 2, 1) := by decide +kernel
theorem dX5_bestWant_68 : decode cX5_bestWant 68 = .ok (.iload 5, 2) := by decide +kernel
theorem dX5_bestWant_70 : decode cX5_bestWant 70 = .ok (.invokestatic 249, 3) := by decide +kernel
theorem dX5_bestWant_73 : decode cX5_bestWant 73 = .ok (.iastore, 1) := by decide +kernel
theorem dX5_bestWant_74 : decode cX5_bestWant 74 = .ok (.aload_n 0, 1) := by decide +kernel
theorem dX5_bestWant_75 : decode cX5_bestWant 75 = .ok (.getfield 39, 3) := by decide +kernel
theorem dX5_bestWant_78 : decode cX5_bestWant 78 = .ok (.aload_n 0, 1) := by decide +kernel
theorem dX5_bestWant_79 : decode cX5_bestWant 79 = .ok (.getfield 16, 3) := by decide +kernel
theorem dX5_bestWant_82 : decode cX5_bestWant 82 = .ok (.aload_n 0, 1) := by decide +kernel
theorem dX5_bestWant_83 : decode cX5_bestWant 83 = .ok (.getfield 16, 3) := by decide +kernel
theorem dX5_bestWant_86 : decode cX5_bestWant 86 = .ok (.getfield 92, 3) := by decide +kernel
theorem dX5_bestWant_89 : decode cX5_bestWant 89 = .ok (.invokevirtual 188, 3) := by decide +kernel
theorem dX5_bestWant_92 : decode cX5_bestWant 92 = .ok (.istore 6, 2) := by decide +kernel
theorem dX5_bestWant_94 : decode cX5_bestWant 94 = .ok (.iload 6, 2) := by decide +kernel
theorem dX5_bestWant_96 : decode cX5_bestWant 96 = .ok (.iload 4, 2) := by decide +kernel
theorem dX5_bestWant_98 : decode cX5_bestWant 98 = .ok (.if_icmp .le 10, 3) := by decide +kernel
theorem dX5_bestWant_101 : decode cX5_bestWant 101 = .ok (.iload 6, 2) := by decide +kernel
theorem dX5_bestWant_103 : decode cX5_bestWant 103 = .ok (.istore 4, 2) := by decide +kernel
theorem dX5_bestWant_105 : decode cX5_bestWant 105 = .ok (.iload 5, 2) := by decide +kernel
theorem dX5_bestWant_107 : decode cX5_bestWant 107 = .ok (.istore_n 3, 1) := by decide +kernel
theorem dX5_bestWant_108 : decode cX5_bestWant 108 = .ok (.iinc 5 1, 3) := by decide +kernel
theorem dX5_bestWant_111 : decode cX5_bestWant 111 = .ok (.goto (-68), 3) := by decide +kernel
theorem dX5_bestWant_114 : decode cX5_bestWant 114 = .ok (.iload_n 3, 1) := by decide +kernel
theorem dX5_bestWant_115 : decode cX5_bestWant 115 = .ok (.ireturn, 1) := by decide +kernel
theorem dX5_undo_0 : decode cX5_undo 0 = .ok (.aload_n 0, 1) := by decide +kernel
theorem dX5_undo_1 : decode cX5_undo 1 = .ok (.getfield 25, 3) := by decide +kernel
theorem dX5_undo_4 : decode cX5_undo 4 = .ok (.getfield 237, 3) := by decide +kernel
theorem dX5_undo_7 : decode cX5_undo 7 = .ok (.ifCond .gt 6, 3) := by decide +kernel
theorem dX5_undo_10 : decode cX5_undo 10 = .ok (.bipush (-2), 2) := by decide +kernel
theorem dX5_undo_12 : decode cX5_undo 12 = .ok (.ireturn, 1) := by decide +kernel
theorem dX5_undo_13 : decode cX5_undo 13 = .ok (.aload_n 0, 1) := by decide +kernel
theorem dX5_undo_14 : decode cX5_undo 14 = .ok (.getfield 25, 3) := by decide +kernel
theorem dX5_undo_17 : decode cX5_undo 17 = .ok (.aload_n 0, 1) := by decide +kernel
theorem dX5_undo_18 : decode cX5_undo 18 = .ok (.getfield 10, 3) := by decide +kernel
theorem dX5_undo_21 : decode cX5_undo 21 = .ok (.invokevirtual 252, 3) := by decide +kernel
theorem dX5_undo_24 : decode cX5_undo 24 = .ok (.aload_n 0, 1) := by decide +kernel
theorem dX5_undo_25 : decode cX5_undo 25 = .ok (.getfield 25, 3) := by decide +kernel
theorem dX5_undo_28 : decode cX5_undo 28 = .ok (.getfield 237, 3) := by decide +kernel
theorem dX5_undo_31 : decode cX5_undo 31 = .ok (.ireturn, 1) := by decide +kernel
theorem dX5_save_0 : decode cX5_save 0 = .ok (.aload_n 0, 1) := by decide +kernel
theorem dX5_save_1 : decode cX5_save 1 = .ok (.getfield 19, 3) := by decide +kernel
theorem dX5_save_4 : decode cX5_save 4 = .ok (.aload_n 0, 1) := by decide +kernel
theorem dX5_save_5 : decode cX5_save 5 = .ok (.getfield 10, 3) := by decide +kernel
theorem dX5_save_8 : decode cX5_save 8 = .ok (.invokevirtual 243, 3) := by decide +kernel
theorem dX5_save_11 : decode cX5_save 11 = .ok (.aload_n 0, 1) := by decide +kernel
theorem dX5_save_12 : decode cX5_save 12 = .ok (.iconst 1, 1) := by decide +kernel
theorem dX5_save_13 : decode cX5_save 13 = .ok (.putfield 255, 3) := by decide +kernel
theorem dX5_save_16 : decode cX5_save 16 = .ok (.aload_n 0, 1) := by decide +kernel
theorem dX5_save_17 : decode cX5_save 17 = .ok (.getfield 10, 3) := by decide +kernel
theorem dX5_save_20 : decode cX5_save 20 = .ok (.getfield 210, 3) := by decide +kernel
theorem dX5_save_23 : decode cX5_save 23 = .ok (.ireturn, 1) := by decide +kernel
theorem dX5_restore_0 : decode cX5_restore 0 = .ok (.aload_n 0, 1) := by decide +kernel
theorem dX5_restore_1 : decode cX5_restore 1 = .ok (.getfield 255, 3) := by decide +kernel
theorem dX5_restore_4 : decode cX5_restore 4 = .ok (.ifCond .ne 6, 3) := by decide +kernel
theorem dX5_restore_7 : decode cX5_restore 7 = .ok (.bipush (-2), 2) := by decide +kernel
theorem dX5_restore_9 : decode cX5_restore 9 = .ok (.ireturn, 1) := by decide +kernel
theorem dX5_restore_10 : decode cX5_restore 10 = .ok (.aload_n 0, 1) := by decide +kernel
theorem dX5_restore_11 : decode cX5_restore 11 = .ok (.getfield 25, 3) := by decide +kernel
theorem dX5_restore_14 : decode cX5_restore 14 = .ok (.aload_n 0, 1) := by decide +kernel
theorem dX5_restore_15 : decode cX5_restore 15 = .ok (.getfield 10, 3) := by decide +kernel
theorem dX5_restore_18 : decode cX5_restore 18 = .ok (.invokevirtual 64, 3) := by decide +kernel
theorem dX5_restore_21 : decode cX5_restore 21 = .ok (.aload_n 0, 1) := by decide +kernel
theorem dX5_restore_22 : decode cX5_restore 22 = .ok (.getfield 10, 3) := by decide +kernel
theorem dX5_restore_25 : decode cX5_restore 25 = .ok (.aload_n 0, 1) := by decide +kernel
theorem dX5_restore_26 : decode cX5_restore 26 = .ok (.getfield 19, 3) := by decide +kernel
theorem dX5_restore_29 : decode cX5_restore 29 = .ok (.invokevirtual 243, 3) := by decide +kernel
theorem dX5_restore_32 : decode cX5_restore 32 = .ok (.aload_n 0, 1) := by decide +kernel
theorem dX5_restore_33 : decode cX5_restore 33 = .ok (.getfield 10, 3) := by decide +kernel
theorem dX5_restore_36 : decode cX5_restore 36 = .ok (.getfield 210, 3) := by decide +kernel
theorem dX5_restore_39 : decode cX5_restore 39 = .ok (.ireturn, 1) := by decide +kernel
theorem dX5_isKind_0 : decode cX5_isKind 0 = .ok (.iload_n 0, 1) := by decide +kernel
theorem dX5_isKind_1 : decode cX5_isKind 1 = .ok (.ifCond .lt 13, 3) := by decide +kernel
theorem dX5_isKind_4 : decode cX5_isKind 4 = .ok (.iload_n 0, 1) := by decide +kernel
theorem dX5_isKind_5 : decode cX5_isKind 5 = .ok (.bipush 6, 2) := by decide +kernel
theorem dX5_isKind_7 : decode cX5_isKind 7 = .ok (.if_icmp .ge 7, 3) := by decide +kernel
theorem dX5_isKind_10 : decode cX5_isKind 10 = .ok (.iconst 1, 1) := by decide +kernel
theorem dX5_isKind_11 : decode cX5_isKind 11 = .ok (.goto 4, 3) := by decide +kernel
theorem dX5_isKind_14 : decode cX5_isKind 14 = .ok (.iconst 0, 1) := by decide +kernel
theorem dX5_isKind_15 : decode cX5_isKind 15 = .ok (.ireturn, 1) := by decide +kernel
theorem dX5_isSetOfKinds_0 : decode cX5_isSetOfKinds 0 = .ok (.iload_n 0, 1) := by decide +kernel
theorem dX5_isSetOfKinds_1 : decode cX5_isSetOfKinds 1 = .ok (.ifCond .lt 13, 3) := by decide +kernel
theorem dX5_isSetOfKinds_4 : decode cX5_isSetOfKinds 4 = .ok (.iload_n 0, 1) := by decide +kernel
theorem dX5_isSetOfKinds_5 : decode cX5_isSetOfKinds 5 = .ok (.bipush 63, 2) := by decide +kernel
theorem dX5_isSetOfKinds_7 : decode cX5_isSetOfKinds 7 = .ok (.if_icmp .gt 7, 3) := by decide +kernel
theorem dX5_isSetOfKinds_10 : decode cX5_isSetOfKinds 10 = .ok (.iconst 1, 1) := by decide +kernel
theorem dX5_isSetOfKinds_11 : decode cX5_isSetOfKinds 11 = .ok (.goto 4, 3) := by decide +kernel
theorem dX5_isSetOfKinds_14 : decode cX5_isSetOfKinds 14 = .ok (.iconst 0, 1) := by decide +kernel
theorem dX5_isSetOfKinds_15 : decode cX5_isSetOfKinds 15 = .ok (.ireturn, 1) := by decide +kernel
theorem dX5_isCircleLength_0 : decode cX5_isCircleLength 0 = .ok (.iload_n 0, 1) := by decide +kernel
theorem dX5_isCircleLength_1 : decode cX5_isCircleLength 1 = .ok (.iconst 2, 1) := by decide +kernel
theorem dX5_isCircleLength_2 : decode cX5_isCircleLength 2 = .ok (.if_icmp .lt 13, 3) := by decide +kernel
theorem dX5_isCircleLength_5 : decode cX5_isCircleLength 5 = .ok (.iload_n 0, 1) := by decide +kernel
theorem dX5_isCircleLength_6 : decode cX5_isCircleLength 6 = .ok (.bipush 7, 2) := by decide +kernel
theorem dX5_isCircleLength_8 : decode cX5_isCircleLength 8 = .ok (.if_icmp .gt 7, 3) := by decide +kernel
theorem dX5_isCircleLength_11 : decode cX5_isCircleLength 11 = .ok (.iconst 1, 1) := by decide +kernel
theorem dX5_isCircleLength_12 : decode cX5_isCircleLength 12 = .ok (.goto 4, 3) := by decide +kernel
theorem dX5_isCircleLength_15 : decode cX5_isCircleLength 15 = .ok (.iconst 0, 1) := by decide +kernel
theorem dX5_isCircleLength_16 : decode cX5_isCircleLength 16 = .ok (.ireturn, 1) := by decide +kernel
theorem dX5_holds_0 : decode cX5_holds 0 = .ok (.iload_n 0, 1) := by decide +kernel
theorem dX5_holds_1 : decode cX5_holds 1 = .ok (.iload_n 1, 1) := by decide +kernel
theorem dX5_holds_2 : decode cX5_holds 2 = .ok (.ishr, 1) := by decide +kernel
theorem dX5_holds_3 : decode cX5_holds 3 = .ok (.iconst 1, 1) := by decide +kernel
theorem dX5_holds_4 : decode cX5_holds 4 = .ok (.iand, 1) := by decide +kernel
theorem dX5_holds_5 : decode cX5_holds 5 = .ok (.ifCond .eq 7, 3) := by decide +kernel
theorem dX5_holds_8 : decode cX5_holds 8 = .ok (.iconst 1, 1) := by decide +kernel
theorem dX5_holds_9 : decode cX5_holds 9 = .ok (.goto 4, 3) := by decide +kernel
theorem dX5_holds_12 : decode cX5_holds 12 = .ok (.iconst 0, 1) := by decide +kernel
theorem dX5_holds_13 : decode cX5_holds 13 = .ok (.ireturn, 1) := by decide +kernel
theorem dX5_with_0 : decode cX5_with 0 = .ok (.iload_n 0, 1) := by decide +kernel
theorem dX5_with_1 : decode cX5_with 1 = .ok (.iconst 1, 1) := by decide +kernel
theorem dX5_with_2 : decode cX5_with 2 = .ok (.iload_n 1, 1) := by decide +kernel
theorem dX5_with_3 : decode cX5_with 3 = .ok (.ishl, 1) := by decide +kernel
theorem dX5_with_4 : decode cX5_with 4 = .ok (.ior, 1) := by decide +kernel
theorem dX5_with_5 : decode cX5_with 5 = .ok (.ireturn, 1) := by decide +kernel
theorem dX5_callMarket_0 : decode cX5_callMarket 0 = .ok (.aload_n 0, 1) := by decide +kernel
theorem dX5_callMarket_1 : decode cX5_callMarket 1 = .ok (.getfield 46, 3) := by decide +kernel
theorem dX5_callMarket_4 : decode cX5_callMarket 4 = .ok (.aload_n 1, 1) := by decide +kernel
theorem dX5_callMarket_5 : decode cX5_callMarket 5 = .ok (.invokevirtual 192, 3) := by decide +kernel
theorem dX5_callMarket_8 : decode cX5_callMarket 8 = .ok (.istore_n 2, 1) := by decide +kernel
theorem dX5_callMarket_9 : decode cX5_callMarket 9 = .ok (.aload_n 1, 1) := by decide +kernel
theorem dX5_callMarket_10 : decode cX5_callMarket 10 = .ok (.aload_n 0, 1) := by decide +kernel
theorem dX5_callMarket_11 : decode cX5_callMarket 11 = .ok (.getfield 46, 3) := by decide +kernel
theorem dX5_callMarket_14 : decode cX5_callMarket 14 = .ok (.getfield 259, 3) := by decide +kernel
theorem dX5_callMarket_17 : decode cX5_callMarket 17 = .ok (.invokevirtual 262, 3) := by decide +kernel
theorem dX5_callMarket_20 : decode cX5_callMarket 20 = .ok (.aload_n 1, 1) := by decide +kernel
theorem dX5_callMarket_21 : decode cX5_callMarket 21 = .ok (.dup, 1) := by decide +kernel
theorem dX5_callMarket_22 : decode cX5_callMarket 22 = .ok (.getfield 228, 3) := by decide +kernel
theorem dX5_callMarket_25 : decode cX5_callMarket 25 = .ok (.iconst 1, 1) := by decide +kernel
theorem dX5_callMarket_26 : decode cX5_callMarket 26 = .ok (.iadd, 1) := by decide +kernel
theorem dX5_callMarket_27 : decode cX5_callMarket 27 = .ok (.putfield 228, 3) := by decide +kernel
theorem dX5_callMarket_30 : decode cX5_callMarket 30 = .ok (.iload_n 2, 1) := by decide +kernel
theorem dX5_callMarket_31 : decode cX5_callMarket 31 = .ok (.ireturn, 1) := by decide +kernel
theorem dX5_bestGiver_0 : decode cX5_bestGiver 0 = .ok (.aload_n 0, 1) := by decide +kernel
theorem dX5_bestGiver_1 : decode cX5_bestGiver 1 = .ok (.getfield 46, 3) := by decide +kernel
theorem dX5_bestGiver_4 : decode cX5_bestGiver 4 = .ok (.aload_n 0, 1) := by decide +kernel
theorem dX5_bestGiver_5 : decode cX5_bestGiver 5 = .ok (.getfield 10, 3) := by decide +kernel
theorem dX5_bestGiver_8 : decode cX5_bestGiver 8 = .ok (.invokevirtual 192, 3) := by decide +kernel
theorem dX5_bestGiver_11 : decode cX5_bestGiver 11 = .ok (.pop, 1) := by decide +kernel
theorem dX5_bestGiver_12 : decode cX5_bestGiver 12 = .ok (.aload_n 0, 1) := by decide +kernel
theorem dX5_bestGiver_13 : decode cX5_bestGiver 13 = .ok (.getfield 46, 3) := by decide +kernel
theorem dX5_bestGiver_16 : decode cX5_bestGiver 16 = .ok (.getfield 259, 3) := by decide +kernel
theorem dX5_bestGiver_19 : decode cX5_bestGiver 19 = .ok (.iload_n 1, 1) := by decide +kernel
theorem dX5_bestGiver_20 : decode cX5_bestGiver 20 = .ok (.iaload, 1) := by decide +kernel
theorem dX5_bestGiver_21 : decode cX5_bestGiver 21 = .ok (.istore_n 2, 1) := by decide +kernel
theorem dX5_bestGiver_22 : decode cX5_bestGiver 22 = .ok (.iload_n 2, 1) := by decide +kernel
theorem dX5_bestGiver_23 : decode cX5_bestGiver 23 = .ok (.iconst (-1), 1) := by decide +kernel
theorem dX5_bestGiver_24 : decode cX5_bestGiver 24 = .ok (.if_icmp .ne 8, 3) := by decide +kernel
theorem dX5_bestGiver_27 : decode cX5_bestGiver 27 = .ok (.bipush (-4), 2) := by decide +kernel
theorem dX5_bestGiver_29 : decode cX5_bestGiver 29 = .ok (.goto 4, 3) := by decide +kernel
theorem dX5_bestGiver_32 : decode cX5_bestGiver 32 = .ok (.iload_n 2, 1) := by decide +kernel
theorem dX5_bestGiver_33 : decode cX5_bestGiver 33 = .ok (.ireturn, 1) := by decide +kernel
theorem dX5_doBarterOfPad_0 : decode cX5_doBarterOfPad 0 = .ok (.aload_n 0, 1) := by decide +kernel
theorem dX5_doBarterOfPad_1 : decode cX5_doBarterOfPad 1 = .ok (.getfield 32, 3) := by decide +kernel
theorem dX5_doBarterOfPad_4 : decode cX5_doBarterOfPad 4 = .ok (.iload_n 1, 1) := by decide +kernel
theorem dX5_doBarterOfPad_5 : decode cX5_doBarterOfPad 5 = .ok (.iconst 1, 1) := by decide +kernel
theorem dX5_doBarterOfPad_6 : decode cX5_doBarterOfPad 6 = .ok (.iadd, 1) := by decide +kernel
theorem dX5_doBarterOfPad_7 : decode cX5_doBarterOfPad 7 = .ok (.invokevirtual 134, 3) := by decide +kernel
theorem dX5_doBarterOfPad_10 : decode cX5_doBarterOfPad 10 = .ok (.istore_n 2, 1) := by decide +kernel
theorem dX5_doBarterOfPad_11 : decode cX5_doBarterOfPad 11 = .ok (.aload_n 0, 1) := by decide +kernel
theorem dX5_doBarterOfPad_12 : decode cX5_doBarterOfPad 12 = .ok (.getfield 32, 3) := by decide +kernel
theorem dX5_doBarterOfPad_15 : decode cX5_doBarterOfPad 15 = .ok (.iload_n 1, 1) := by decide +kernel
theorem dX5_doBarterOfPad_16 : decode cX5_doBarterOfPad 16 = .ok (.iconst 2, 1) := by decide +kernel
theorem dX5_doBarterOfPad_17 : decode cX5_doBarterOfPad 17 = .ok (.iadd, 1) := by decide +kernel
theorem dX5_doBarterOfPad_18 : decode cX5_doBarterOfPad 18 = .ok (.invokevirtual 134, 3) := by decide +kernel
theorem dX5_doBarterOfPad_21 : decode cX5_doBarterOfPad 21 = .ok (.istore_n 3, 1) := by decide +kernel
theorem dX5_doBarterOfPad_22 : decode cX5_doBarterOfPad 22 = .ok (.aload_n 0, 1) := by decide +kernel
theorem dX5_doBarterOfPad_23 : decode cX5_doBarterOfPad 23 = .ok (.getfield 10, 3) := by decide +kernel
theorem dX5_doBarterOfPad_26 : decode cX5_doBarterOfPad 26 = .ok (.iload_n 2, 1) := by decide +kernel
theorem dX5_doBarterOfPad_27 : decode cX5_doBarterOfPad 27 = .ok (.iload_n 3, 1) := by decide +kernel
theorem dX5_doBarterOfPad_28 : decode cX5_doBarterOfPad 28 = .ok (.invokevirtual 98, 3) := by decide +kernel
theorem dX5_doBarterOfPad_31 : decode cX5_doBarterOfPad 31 = .ok (.ifCond .eq 15, 3) := by decide +kernel
theorem dX5_doBarterOfPad_34 : decode cX5_doBarterOfPad 34 = .ok (.aload_n 0, 1) := by decide +kernel
theorem dX5_doBarterOfPad_35 : decode cX5_doBarterOfPad 35 = .ok (.getfield 10, 3) := by decide +kernel
theorem dX5_doBarterOfPad_38 : decode cX5_doBarterOfPad 38 = .ok (.iload_n 2, 1) := by decide +kernel
theorem dX5_doBarterOfPad_39 : decode cX5_doBarterOfPad 39 = .ok (.iload_n 3, 1) := by decide +kernel
theorem dX5_doBarterOfPad_40 : decode cX5_doBarterOfPad 40 = .ok (.invokevirtual 102, 3) := by decide +kernel
theorem dX5_doBarterOfPad_43 : decode cX5_doBarterOfPad 43 = .ok (.goto 4, 3) := by decide +kernel
theorem dX5_doBarterOfPad_46 : decode cX5_doBarterOfPad 46 = .ok (.iconst (-1), 1) := by decide +kernel
theorem dX5_doBarterOfPad_47 : decode cX5_doBarterOfPad 47 = .ok (.istore 4, 2) := by decide +kernel
theorem dX5_doBarterOfPad_49 : decode cX5_doBarterOfPad 49 = .ok (.iload 4, 2) := by decide +kernel
theorem dX5_doBarterOfPad_51 : decode cX5_doBarterOfPad 51 = .ok (.bipush 10, 2) := by decide +kernel
theorem dX5_doBarterOfPad_53 : decode cX5_doBarterOfPad 53 = .ok (.if_icmp .eq 14, 3) := by decide +kernel
theorem dX5_doBarterOfPad_56 : decode cX5_doBarterOfPad 56 = .ok (.aload_n 0, 1) := by decide +kernel
theorem dX5_doBarterOfPad_57 : decode cX5_doBarterOfPad 57 = .ok (.iload 4, 2) := by decide +kernel
theorem dX5_doBarterOfPad_59 : decode cX5_doBarterOfPad 59 = .ok (.putfield 147, 3) := by decide +kernel
theorem dX5_doBarterOfPad_62 : decode cX5_doBarterOfPad 62 = .ok (.aload_n 0, 1) := by decide +kernel
theorem dX5_doBarterOfPad_63 : decode cX5_doBarterOfPad 63 = .ok (.iload_n 1, 1) := by decide +kernel
theorem dX5_doBarterOfPad_64 : decode cX5_doBarterOfPad 64 = .ok (.putfield 50, 3) := by decide +kernel
theorem dX5_doBarterOfPad_67 : decode cX5_doBarterOfPad 67 = .ok (.return_, 1) := by decide +kernel
theorem dX6_init_0 : decode cX6_init 0 = .ok (.aload_n 0, 1) := by decide +kernel
theorem dX6_init_1 : decode cX6_init 1 = .ok (.invokespecial 1, 3) := by decide +kernel
theorem dX6_init_4 : decode cX6_init 4 = .ok (.aload_n 0, 1) := by decide +kernel
theorem dX6_init_5 : decode cX6_init 5 = .ok (.bipush 57, 2) := by decide +kernel
theorem dX6_init_7 : decode cX6_init 7 = .ok (.newarray .int, 2) := by decide +kernel
theorem dX6_init_9 : decode cX6_init 9 = .ok (.putfield 7, 3) := by decide +kernel
theorem dX6_init_12 : decode cX6_init 12 = .ok (.aload_n 0, 1) := by decide +kernel
theorem dX6_init_13 : decode cX6_init 13 = .ok (.bipush 57, 2) := by decide +kernel
theorem dX6_init_15 : decode cX6_init 15 = .ok (.newarray .int, 2) := by decide +kernel
theorem dX6_init_17 : decode cX6_init 17 = .ok (.putfield 13, 3) := by decide +kernel
theorem dX6_init_20 : decode cX6_init 20 = .ok (.aload_n 0, 1) := by decide +kernel
theorem dX6_init_21 : decode cX6_init 21 = .ok (.sipush 228, 3) := by decide +kernel
theorem dX6_init_24 : decode cX6_init 24 = .ok (.newarray .int, 2) := by decide +kernel
theorem dX6_init_26 : decode cX6_init 26 = .ok (.putfield 16, 3) := by decide +kernel
theorem dX6_init_29 : decode cX6_init 29 = .ok (.aload_n 0, 1) := by decide +kernel
theorem dX6_init_30 : decode cX6_init 30 = .ok (.bipush 57, 2) := by decide +kernel
theorem dX6_init_32 : decode cX6_init 32 = .ok (.newarray .int, 2) := by decide +kernel
theorem dX6_init_34 : decode cX6_init 34 = .ok (.putfield 19, 3) := by decide +kernel
theorem dX6_init_37 : decode cX6_init 37 = .ok (.aload_n 0, 1) := by decide +kernel
theorem dX6_init_38 : decode cX6_init 38 = .ok (.bipush 60, 2) := by decide +kernel
theorem dX6_init_40 : decode cX6_init 40 = .ok (.newarray .int, 2) := by decide +kernel
theorem dX6_init_42 : decode cX6_init 42 = .ok (.putfield 22, 3) := by decide +kernel
theorem dX6_init_45 : decode cX6_init 45 = .ok (.aload_n 0, 1) := by decide +kernel
theorem dX6_init_46 : decode cX6_init 46 = .ok (.bipush (-4), 2) := by decide +kernel
theorem dX6_init_48 : decode cX6_init 48 = .ok (.putfield 25, 3) := by decide +kernel
theorem dX6_init_51 : decode cX6_init 51 = .ok (.aload_n 0, 1) := by decide +kernel
theorem dX6_init_52 : decode cX6_init 52 = .ok (.bipush (-4), 2) := by decide +kernel
theorem dX6_init_54 : decode cX6_init 54 = .ok (.putfield 29, 3) := by decide +kernel
theorem dX6_init_57 : decode cX6_init 57 = .ok (.aload_n 0, 1) := by decide +kernel
theorem dX6_init_58 : decode cX6_init 58 = .ok (.bipush 7, 2) := by decide +kernel
theorem dX6_init_60 : decode cX6_init 60 = .ok (.newarray .int, 2) := by decide +kernel
theorem dX6_init_62 : decode cX6_init 62 = .ok (.putfield 32, 3) := by decide +kernel
theorem dX6_init_65 : decode cX6_init 65 = .ok (.aload_n 0, 1) := by decide +kernel
theorem dX6_init_66 : decode cX6_init 66 = .ok (.bipush 7, 2) := by decide +kernel
theorem dX6_init_68 : decode cX6_init 68 = .ok (.newarray .int, 2) := by decide +kernel
theorem dX6_init_70 : decode cX6_init 70 = .ok (.putfield 35, 3) := by decide +kernel
theorem dX6_init_73 : decode cX6_init 73 = .ok (.aload_n 0, 1) := by decide +kernel
theorem dX6_init_74 : decode cX6_init 74 = .ok (.bipush 8, 2) := by decide +kernel
theorem dX6_init_76 : decode cX6_init 76 = .ok (.newarray .int, 2) := by decide +kernel
theorem dX6_init_78 : decode cX6_init 78 = .ok (.putfield 38, 3) := by decide +kernel
theorem dX6_init_81 : decode cX6_init 81 = .ok (.aload_n 0, 1) := by decide +kernel
theorem dX6_init_82 : decode cX6_init 82 = .ok (.bipush 7, 2) := by decide +kernel
theorem dX6_init_84 : decode cX6_init 84 = .ok (.newarray .int, 2) := by decide +kernel
theorem dX6_init_86 : decode cX6_init 86 = .ok (.putfield 41, 3) := by decide +kernel
theorem dX6_init_89 : decode cX6_init 89 = .ok (.aload_n 0, 1) := by decide +kernel
theorem dX6_init_90 : decode cX6_init 90 = .ok (.bipush 7, 2) := by decide +kernel
theorem dX6_init_92 : decode cX6_init 92 = .ok (.newarray .int, 2) := by decide +kernel
theorem dX6_init_94 : decode cX6_init 94 = .ok (.putfield 44, 3) := by decide +kernel
theorem dX6_init_97 : decode cX6_init 97 = .ok (.aload_n 0, 1) := by decide +kernel
theorem dX6_init_98 : decode cX6_init 98 = .ok (.getfield 7, 3) := by decide +kernel
theorem dX6_init_101 : decode cX6_init 101 = .ok (.bipush 7, 2) := by decide +kernel
theorem dX6_init_103 : decode cX6_init 103 = .ok (.bipush 7, 2) := by decide +kernel
theorem dX6_init_105 : decode cX6_init 105 = .ok (.iastore, 1) := by decide +kernel
theorem dX6_init_106 : decode cX6_init 106 = .ok (.aload_n 0, 1) := by decide +kernel
theorem dX6_init_107 : decode cX6_init 107 = .ok (.getfield 7, 3) := by decide +kernel
theorem dX6_init_110 : decode cX6_init 110 = .ok (.bipush 8, 2) := by decide +kernel
theorem dX6_init_112 : decode cX6_init 112 = .ok (.iconst 1, 1) := by decide +kernel
theorem dX6_init_113 : decode cX6_init 113 = .ok (.iastore, 1) := by decide +kernel
theorem dX6_init_114 : decode cX6_init 114 = .ok (.aload_n 0, 1) := by decide +kernel
theorem dX6_init_115 : decode cX6_init 115 = .ok (.getfield 7, 3) := by decide +kernel
theorem dX6_init_118 : decode cX6_init 118 = .ok (.bipush 9, 2) := by decide +kernel
theorem dX6_init_120 : decode cX6_init 120 = .ok (.bipush (-4), 2) := by decide +kernel
theorem dX6_init_122 : decode cX6_init 122 = .ok (.iastore, 1) := by decide +kernel
theorem dX6_init_123 : decode cX6_init 123 = .ok (.iconst 0, 1) := by decide +kernel
theorem dX6_init_124 : decode cX6_init 124 = .ok (.istore_n 1, 1) := by decide +kernel
theorem dX6_init_125 : decode cX6_init 125 = .ok (.iload_n 1, 1) := by decide +kernel
theorem dX6_init_126 : decode cX6_init 126 = .ok (.bipush 6, 2) := by decide +kernel
theorem dX6_init_128 : decode cX6_init 128 = .ok (.if_icmp .ge 20, 3) := by decide +kernel
theorem dX6_init_131 : decode cX6_init 131 = .ok (.aload_n 0, 1) := by decide +kernel
theorem dX6_init_132 : decode cX6_init 132 = .ok (.getfield 7, 3) := by decide +kernel
theorem dX6_init_135 : decode cX6_init 135 = .ok (.iload_n 1, 1) := by decide +kernel
theorem dX6_init_136 : decode cX6_init 136 = .ok (.iconst 0, 1) := by decide +kernel
theorem dX6_init_137 : decode cX6_init 137 = .ok (.invokestatic 47, 3) := by decide +kernel
theorem dX6_init_140 : decode cX6_init 140 = .ok (.iconst 3, 1) := by decide +kernel
theorem dX6_init_141 : decode cX6_init 141 = .ok (.iastore, 1) := by decide +kernel
theorem dX6_init_142 : decode cX6_init 142 = .ok (.iinc 1 1, 3) := by decide +kernel
theorem dX6_init_145 : decode cX6_init 145 = .ok (.goto (-20), 3) := by decide +kernel
theorem dX6_init_148 : decode cX6_init 148 = .ok (.return_, 1) := by decide +kernel
theorem dX6_in_0 : decode cX6_in 0 = .ok (.iload_n 0, 1) := by decide +kernel
theorem dX6_in_1 : decode cX6_in 1 = .ok (.iload_n 1, 1) := by decide +kernel
theorem dX6_in_2 : decode cX6_in 2 = .ok (.if_icmp .lt 12, 3) := by decide +kernel
theorem dX6_in_5 : decode cX6_in 5 = .ok (.iload_n 0, 1) := by decide +kernel
theorem dX6_in_6 : decode cX6_in 6 = .ok (.iload_n 2, 1) := by decide +kernel
theorem dX6_in_7 : decode cX6_in 7 = .ok (.if_icmp .gt 7, 3) := by decide +kernel
theorem dX6_in_10 : decode cX6_in 10 = .ok (.iconst 1, 1) := by decide +kernel
theorem dX6_in_11 : decode cX6_in 11 = .ok (.goto 4, 3) := by decide +kernel
theorem dX6_in_14 : decode cX6_in 14 = .ok (.iconst 0, 1) := by decide +kernel
theorem dX6_in_15 : decode cX6_in 15 = .ok (.ireturn, 1) := by decide +kernel
theorem dX6_isTrader_0 : decode cX6_isTrader 0 = .ok (.iload_n 1, 1) := by decide +kernel
theorem dX6_isTrader_1 : decode cX6_isTrader 1 = .ok (.iconst 0, 1) := by decide +kernel
theorem dX6_isTrader_2 : decode cX6_isTrader 2 = .ok (.aload_n 0, 1) := by decide +kernel
theorem dX6_isTrader_3 : decode cX6_isTrader 3 = .ok (.getfield 7, 3) := by decide +kernel
theorem dX6_isTrader_6 : decode cX6_isTrader 6 = .ok (.iconst 1, 1) := by decide +kernel
theorem dX6_isTrader_7 : decode cX6_isTrader 7 = .ok (.iaload, 1) := by decide +kernel
theorem dX6_isTrader_8 : decode cX6_isTrader 8 = .ok (.iconst 1, 1) := by decide +kernel
theorem dX6_isTrader_9 : decode cX6_isTrader 9 = .ok (.isub, 1) := by decide +kernel
theorem dX6_isTrader_10 : decode cX6_isTrader 10 = .ok (.invokestatic 51, 3) := by decide +kernel
theorem dX6_isTrader_13 : decode cX6_isTrader 13 = .ok (.ireturn, 1) := by decide +kernel
theorem dX6_arePair_0 : decode cX6_arePair 0 = .ok (.aload_n 0, 1) := by decide +kernel
theorem dX6_arePair_1 : decode cX6_arePair 1 = .ok (.iload_n 1, 1) := by decide +kernel
theorem dX6_arePair_2 : decode cX6_arePair 2 = .ok (.invokevirtual 55, 3) := by decide +kernel
theorem dX6_arePair_5 : decode cX6_arePair 5 = .ok (.ifCond .eq 20, 3) := by decide +kernel
theorem dX6_arePair_8 : decode cX6_arePair 8 = .ok (.aload_n 0, 1) := by decide +kernel
theorem dX6_arePair_9 : decode cX6_arePair 9 = .ok (.iload_n 2, 1) := by decide +kernel
theorem dX6_arePair_10 : decode cX6_arePair 10 = .ok (.invokevirtual 55, 3) := by decide +kernel
theorem dX6_arePair_13 : decode cX6_arePair 13 = .ok (.ifCond .eq 12, 3) := by decide +kernel
theorem dX6_arePair_16 : decode cX6_arePair 16 = .ok (.iload_n 1, 1) := by decide +kernel
theorem dX6_arePair_17 : decode cX6_arePair 17 = .ok (.iload_n 2, 1) := by decide +kernel
theorem dX6_arePair_18 : decode cX6_arePair 18 = .ok (.if_icmp .eq 7, 3) := by decide +kernel
theorem dX6_arePair_21 : decode cX6_arePair 21 = .ok (.iconst 1, 1) := by decide +kernel
theorem dX6_arePair_22 : decode cX6_arePair 22 = .ok (.goto 4, 3) := by decide +kernel
theorem dX6_arePair_25 : decode cX6_arePair 25 = .ok (.iconst 0, 1) := by decide +kernel
theorem dX6_arePair_26 : decode cX6_arePair 26 = .ok (.ireturn, 1) := by decide +kernel
theorem dX6_isKind_0 : decode cX6_isKind 0 = .ok (.iload_n 0, 1) := by decide +kernel
theorem dX6_isKind_1 : decode cX6_isKind 1 = .ok (.iconst 0, 1) := by decide +kernel
theorem dX6_isKind_2 : decode cX6_isKind 2 = .ok (.iconst 5, 1) := by decide +kernel
theorem dX6_isKind_3 : decode cX6_isKind 3 = .ok (.invokestatic 51, 3) := by decide +kernel
theorem dX6_isKind_6 : decode cX6_isKind 6 = .ok (.ireturn, 1) := by decide +kernel
theorem dX6_ofKind_0 : decode cX6_ofKind 0 = .ok (.bipush 10, 2) := by decide +kernel
theorem dX6_ofKind_2 : decode cX6_ofKind 2 = .ok (.iconst 2, 1) := by decide +kernel
theorem dX6_ofKind_3 : decode cX6_ofKind 3 = .ok (.iload_n 0, 1) := by decide +kernel
theorem dX6_ofKind_4 : decode cX6_ofKind 4 = .ok (.imul, 1) := by decide +kernel
theorem dX6_ofKind_5 : decode cX6_ofKind 5 = .ok (.iadd, 1) := by decide +kernel
theorem dX6_ofKind_6 : decode cX6_ofKind 6 = .ok (.iload_n 1, 1) := by decide +kernel
theorem dX6_ofKind_7 : decode cX6_ofKind 7 = .ok (.iadd, 1) := by decide +kernel
theorem dX6_ofKind_8 : decode cX6_ofKind 8 = .ok (.ireturn, 1) := by decide +kernel
theorem dX6_at_0 : decode cX6_at 0 = .ok (.bipush 22, 2) := by decide +kernel
theorem dX6_at_2 : decode cX6_at 2 = .ok (.iconst 5, 1) := by decide +kernel
theorem dX6_at_3 : decode cX6_at 3 = .ok (.iload_n 0, 1) := by decide +kernel
theorem dX6_at_4 : decode cX6_at 4 = .ok (.imul, 1) := by decide +kernel
theorem dX6_at_5 : decode cX6_at 5 = .ok (.iadd, 1) := by decide +kernel
theorem dX6_at_6 : decode cX6_at 6 = .ok (.iload_n 1, 1) := by decide +kernel
theorem dX6_at_7 : decode cX6_at 7 = .ok (.iadd, 1) := by decide +kernel
theorem dX6_at_8 : decode cX6_at 8 = .ok (.ireturn, 1) := by decide +kernel
theorem dX6_of_0 : decode cX6_of 0 = .ok (.aload_n 0, 1) := by decide +kernel
theorem dX6_of_1 : decode cX6_of 1 = .ok (.getfield 7, 3) := by decide +kernel
theorem dX6_of_4 : decode cX6_of 4 = .ok (.iload_n 1, 1) := by decide +kernel
theorem dX6_of_5 : decode cX6_of 5 = .ok (.iload_n 2, 1) := by decide +kernel
theorem dX6_of_6 : decode cX6_of 6 = .ok (.invokestatic 59, 3) := by decide +kernel
theorem dX6_of_9 : decode cX6_of 9 = .ok (.iaload, 1) := by decide +kernel
theorem dX6_of_10 : decode cX6_of 10 = .ok (.ireturn, 1) := by decide +kernel
theorem dX6_bits_0 : decode cX6_bits 0 = .ok (.iconst 0, 1) := by decide +kernel
theorem dX6_bits_1 : decode cX6_bits 1 = .ok (.istore_n 1, 1) := by decide +kernel
theorem dX6_bits_2 : decode cX6_bits 2 = .ok (.iconst 0, 1) := by decide +kernel
theorem dX6_bits_3 : decode cX6_bits 3 = .ok (.istore_n 2, 1) := by decide +kernel
theorem dX6_bits_4 : decode cX6_bits 4 = .ok (.iload_n 2, 1) := by decide +kernel
theorem dX6_bits_5 : decode cX6_bits 5 = .ok (.bipush 7, 2) := by decide +kernel
theorem dX6_bits_7 : decode cX6_bits 7 = .ok (.if_icmp .ge 17, 3) := by decide +kernel
theorem dX6_bits_10 : decode cX6_bits 10 = .ok (.iload_n 1, 1) := by decide +kernel
theorem dX6_bits_11 : decode cX6_bits 11 = .ok (.iload_n 0, 1) := by decide +kernel
theorem dX6_bits_12 : decode cX6_bits 12 = .ok (.iload_n 2, 1) := by decide +kernel
theorem dX6_bits_13 : decode cX6_bits 13 = .ok (.ishr, 1) := by decide +kernel
theorem dX6_bits_14 : decode cX6_bits 14 = .ok (.iconst 1, 1) := by decide +kernel
theorem dX6_bits_15 : decode cX6_bits 15 = .ok (.iand, 1) := by decide +kernel
theorem dX6_bits_16 : decode cX6_bits 16 = .ok (.iadd, 1) := by decide +kernel
theorem dX6_bits_17 : decode cX6_bits 17 = .ok (.istore_n 1, 1) := by decide +kernel
theorem dX6_bits_18 : decode cX6_bits 18 = .ok (.iinc 2 1, 3) := by decide +kernel
theorem dX6_bits_21 : decode cX6_bits 21 = .ok (.goto (-17), 3) := by decide +kernel
theorem dX6_bits_24 : decode cX6_bits 24 = .ok (.iload_n 1, 1) := by decide +kernel
theorem dX6_bits_25 : decode cX6_bits 25 = .ok (.ireturn, 1) := by decide +kernel
theorem dX6_record_0 : decode cX6_record 0 = .ok (.aload_n 0, 1) := by decide +kernel
theorem dX6_record_1 : decode cX6_record 1 = .ok (.getfield 62, 3) := by decide +kernel
theorem dX6_record_4 : decode cX6_record 4 = .ok (.iconst 4, 1) := by decide +kernel
theorem dX6_record_5 : decode cX6_record 5 = .ok (.if_icmp .ne 43, 3) := by decide +kernel
theorem dX6_record_8 : decode cX6_record 8 = .ok (.iconst 0, 1) := by decide +kernel
theorem dX6_record_9 : decode cX6_record 9 = .ok (.istore_n 1, 1) := by decide +kernel
theorem dX6_record_10 : decode cX6_record 10 = .ok (.iload_n 1, 1) := by decide +kernel
theorem dX6_record_11 : decode cX6_record 11 = .ok (.sipush 171, 3) := by decide +kernel
theorem dX6_record_14 : decode cX6_record 14 = .ok (.if_icmp .ge 24, 3) := by decide +kernel
theorem dX6_record_17 : decode cX6_record 17 = .ok (.aload_n 0, 1) := by decide +kernel
theorem dX6_record_18 : decode cX6_record 18 = .ok (.getfield 16, 3) := by decide +kernel
theorem dX6_record_21 : decode cX6_record 21 = .ok (.iload_n 1, 1) := by decide +kernel
theorem dX6_record_22 : decode cX6_record 22 = .ok (.aload_n 0, 1) := by decide +kernel
theorem dX6_record_23 : decode cX6_record 23 = .ok (.getfield 16, 3) := by decide +kernel
theorem dX6_record_26 : decode cX6_record 26 = .ok (.iload_n 1, 1) := by decide +kernel
theorem dX6_record_27 : decode cX6_record 27 = .ok (.bipush 57, 2) := by decide +kernel
theorem dX6_record_29 : decode cX6_record 29 = .ok (.iadd, 1) := by decide +kernel
theorem dX6_record_30 : decode cX6_record 30 = .ok (.iaload, 1) := by decide +kernel
theorem dX6_record_31 : decode cX6_record 31 = .ok (.iastore, 1) := by decide +kernel
theorem dX6_record_32 : decode cX6_record 32 = .ok (.iinc 1 1, 3) := by decide +kernel
theorem dX6_record_35 : decode cX6_record 35 = .ok (.goto (-25), 3) := by decide +kernel
theorem dX6_record_38 : decode cX6_record 38 = .ok (.aload_n 0, 1) := by decide +kernel
theorem dX6_record_39 : decode cX6_record 39 = .ok (.dup, 1) := by decide +kernel
theorem dX6_record_40 : decode cX6_record 40 = .ok (.getfield 62, 3) := by decide +kernel
theorem dX6_record_43 : decode cX6_record 43 = .ok (.iconst 1, 1) := by decide +kernel
theorem dX6_record_44 : decode cX6_record 44 = .ok (.isub, 1) := by decide +kernel
theorem dX6_record_45 : decode cX6_record 45 = .ok (.putfield 62, 3) := by decide +kernel
theorem dX6_record_48 : decode cX6_record 48 = .ok (.iconst 0, 1) := by decide +kernel
theorem dX6_record_49 : decode cX6_record 49 = .ok (.istore_n 1, 1) := by decide +kernel
theorem dX6_record_50 : decode cX6_record 50 = .ok (.iload_n 1, 1) := by decide +kernel
theorem dX6_record_51 : decode cX6_record 51 = .ok (.bipush 57, 2) := by decide +kernel
theorem dX6_record_53 : decode cX6_record 53 = .ok (.if_icmp .ge 29, 3) := by decide +kernel
theorem dX6_record_56 : decode cX6_record 56 = .ok (.aload_n 0, 1) := by decide +kernel
theorem dX6_record_57 : decode cX6_record 57 = .ok (.getfield 16, 3) := by decide +kernel
theorem dX6_record_60 : decode cX6_record 60 = .ok (.bipush 57, 2) := by decide +kernel
theorem dX6_record_62 : decode cX6_record 62 = .ok (.aload_n 0, 1) := by decide +kernel
theorem dX6_record_63 : decode cX6_record 63 = .ok (.getfield 62, 3) := by decide +kernel
theorem dX6_record_66 : decode cX6_record 66 = .ok (.imul, 1) := by decide +kernel
theorem dX6_record_67 : decode cX6_record 67 = .ok (.iload_n 1, 1) := by decide +kernel
theorem dX6_record_68 : decode cX6_record 68 = .ok (.iadd, 1) := by decide +kernel
theorem dX6_record_69 : decode cX6_record 69 = .ok (.aload_n 0, 1) := by decide +kernel
theorem dX6_record_70 : decode cX6_record 70 = .ok (.getfield 7, 3) := by decide +kernel
theorem dX6_record_73 : decode cX6_record 73 = .ok (.iload_n 1, 1) := by decide +kernel
theorem dX6_record_74 : decode cX6_record 74 = .ok (.iaload, 1) := by decide +kernel
theorem dX6_record_75 : decode cX6_record 75 = .ok (.iastore, 1) := by decide +kernel
theorem dX6_record_76 : decode cX6_record 76 = .ok (.iinc 1 1, 3) := by decide +kernel
theorem dX6_record_79 : decode cX6_record 79 = .ok (.goto (-29), 3) := by decide +kernel
theorem dX6_record_82 : decode cX6_record 82 = .ok (.aload_n 0, 1) := by decide +kernel
theorem dX6_record_83 : decode cX6_record 83 = .ok (.dup, 1) := by decide +kernel
theorem dX6_record_84 : decode cX6_record 84 = .ok (.getfield 62, 3) := by decide +kernel
theorem dX6_record_87 : decode cX6_record 87 = .ok (.iconst 1, 1) := by decide +kernel
theorem dX6_record_88 : decode cX6_record 88 = .ok (.iadd, 1) := by decide +kernel
theorem dX6_record_89 : decode cX6_record 89 = .ok (.putfield 62, 3) := by decide +kernel
theorem dX6_record_92 : decode cX6_record 92 = .ok (.return_, 1) := by decide +kernel
theorem dX6_putAside_0 : decode cX6_putAside 0 = .ok (.iconst 0, 1) := by decide +kernel
theorem dX6_putAside_1 : decode cX6_putAside 1 = .ok (.istore_n 1, 1) := by decide +kernel
theorem dX6_putAside_2 : decode cX6_putAside 2 = .ok (.iload_n 1, 1) := by decide +kernel
theorem dX6_putAside_3 : decode cX6_putAside 3 = .ok (.bipush 57, 2) := by decide +kernel
theorem dX6_putAside_5 : decode cX6_putAside 5 = .ok (.if_icmp .ge 21, 3) := by decide +kernel
theorem dX6_putAside_8 : decode cX6_putAside 8 = .ok (.aload_n 0, 1) := by decide +kernel
theorem dX6_putAside_9 : decode cX6_putAside 9 = .ok (.getfield 13, 3) := by decide +kernel
theorem dX6_putAside_12 : decode cX6_putAside 12 = .ok (.iload_n 1, 1) := by decide +kernel
theorem dX6_putAside_13 : decode cX6_putAside 13 = .ok (.aload_n 0, 1) := by decide +kernel
theorem dX6_putAside_14 : decode cX6_putAside 14 = .ok (.getfield 7, 3) := by decide +kernel
theorem dX6_putAside_17 : decode cX6_putAside 17 = .ok (.iload_n 1, 1) := by decide +kernel
theorem dX6_putAside_18 : decode cX6_putAside 18 = .ok (.iaload, 1) := by decide +kernel
theorem dX6_putAside_19 : decode cX6_putAside 19 = .ok (.iastore, 1) := by decide +kernel
theorem dX6_putAside_20 : decode cX6_putAside 20 = .ok (.iinc 1 1, 3) := by decide +kernel
theorem dX6_putAside_23 : decode cX6_putAside 23 = .ok (.goto (-21), 3) := by decide +kernel
theorem dX6_putAside_26 : decode cX6_putAside 26 = .ok (.return_, 1) := by decide +kernel
theorem dX6_putBack_0 : decode cX6_putBack 0 = .ok (.iconst 0, 1) := by decide +kernel
theorem dX6_putBack_1 : decode cX6_putBack 1 = .ok (.istore_n 1, 1) := by decide +kernel
theorem dX6_putBack_2 : decode cX6_putBack 2 = .ok (.iload_n 1, 1) := by decide +kernel
theorem dX6_putBack_3 : decode cX6_putBack 3 = .ok (.bipush 57, 2) := by decide +kernel
theorem dX6_putBack_5 : decode cX6_putBack 5 = .ok (.if_icmp .ge 21, 3) := by decide +kernel
theorem dX6_putBack_8 : decode cX6_putBack 8 = .ok (.aload_n 0, 1) := by decide +kernel
theorem dX6_putBack_9 : decode cX6_putBack 9 = .ok (.getfield 7, 3) := by decide +kernel
theorem dX6_putBack_12 : decode cX6_putBack 12 = .ok (.iload_n 1, 1) := by decide +kernel
theorem dX6_putBack_13 : decode cX6_putBack 13 = .ok (.aload_n 0, 1) := by decide +kernel
theorem dX6_putBack_14 : decode cX6_putBack 14 = .ok (.getfield 13, 3) := by decide +kernel
theorem dX6_putBack_17 : decode cX6_putBack 17 = .ok (.iload_n 1, 1) := by decide +kernel
theorem dX6_putBack_18 : decode cX6_putBack 18 = .ok (.iaload, 1) := by decide +kernel
theorem dX6_putBack_19 : decode cX6_putBack 19 = .ok (.iastore, 1) := by decide +kernel
theorem dX6_putBack_20 : decode cX6_putBack 20 = .ok (.iinc 1 1, 3) := by decide +kernel
theorem dX6_putBack_23 : decode cX6_putBack 23 = .ok (.goto (-21), 3) := by decide +kernel
theorem dX6_putBack_26 : decode cX6_putBack 26 = .ok (.return_, 1) := by decide +kernel
theorem dX6_daysLeft_0 : decode cX6_daysLeft 0 = .ok (.aload_n 0, 1) := by decide +kernel
theorem dX6_daysLeft_1 : decode cX6_daysLeft 1 = .ok (.getfield 7, 3) := by decide +kernel
theorem dX6_daysLeft_4 : decode cX6_daysLeft 4 = .ok (.aload_n 0, 1) := by decide +kernel
theorem dX6_daysLeft_5 : decode cX6_daysLeft 5 = .ok (.iload_n 1, 1) := by decide +kernel
theorem dX6_daysLeft_6 : decode cX6_daysLeft 6 = .ok (.iconst 2, 1) := by decide +kernel
theorem dX6_daysLeft_7 : decode cX6_daysLeft 7 = .ok (.invokevirtual 65, 3) := by decide +kernel
theorem dX6_daysLeft_10 : decode cX6_daysLeft 10 = .ok (.iconst 0, 1) := by decide +kernel
theorem dX6_daysLeft_11 : decode cX6_daysLeft 11 = .ok (.invokestatic 47, 3) := by decide +kernel
theorem dX6_daysLeft_14 : decode cX6_daysLeft 14 = .ok (.iaload, 1) := by decide +kernel
theorem dX6_daysLeft_15 : decode cX6_daysLeft 15 = .ok (.aload_n 0, 1) := by decide +kernel
theorem dX6_daysLeft_16 : decode cX6_daysLeft 16 = .ok (.iload_n 1, 1) := by decide +kernel
theorem dX6_daysLeft_17 : decode cX6_daysLeft 17 = .ok (.iconst 3, 1) := by decide +kernel
theorem dX6_daysLeft_18 : decode cX6_daysLeft 18 = .ok (.invokevirtual 65, 3) := by decide +kernel
theorem dX6_daysLeft_21 : decode cX6_daysLeft 21 = .ok (.isub, 1) := by decide +kernel
theorem dX6_daysLeft_22 : decode cX6_daysLeft 22 = .ok (.istore_n 2, 1) := by decide +kernel
theorem dX6_daysLeft_23 : decode cX6_daysLeft 23 = .ok (.iload_n 2, 1) := by decide +kernel
theorem dX6_daysLeft_24 : decode cX6_daysLeft 24 = .ok (.ifCond .le 7, 3) := by decide +kernel
theorem dX6_daysLeft_27 : decode cX6_daysLeft 27 = .ok (.iload_n 2, 1) := by decide +kernel
theorem dX6_daysLeft_28 : decode cX6_daysLeft 28 = .ok (.goto 4, 3) := by decide +kernel
theorem dX6_daysLeft_31 : decode cX6_daysLeft 31 = .ok (.iconst 0, 1) := by decide +kernel
theorem dX6_daysLeft_32 : decode cX6_daysLeft 32 = .ok (.ireturn, 1) := by decide +kernel
theorem dX6_wants_0 : decode cX6_wants 0 = .ok (.aload_n 0, 1) := by decide +kernel
theorem dX6_wants_1 : decode cX6_wants 1 = .ok (.iload_n 1, 1) := by decide +kernel
theorem dX6_wants_2 : decode cX6_wants 2 = .ok (.iconst 1, 1) := by decide +kernel
theorem dX6_wants_3 : decode cX6_wants 3 = .ok (.invokevirtual 65, 3) := by decide +kernel
theorem dX6_wants_6 : decode cX6_wants 6 = .ok (.aload_n 0, 1) := by decide +kernel
theorem dX6_wants_7 : decode cX6_wants 7 = .ok (.iload_n 2, 1) := by decide +kernel
theorem dX6_wants_8 : decode cX6_wants 8 = .ok (.iconst 2, 1) := by decide +kernel
theorem dX6_wants_9 : decode cX6_wants 9 = .ok (.invokevirtual 65, 3) := by decide +kernel
theorem dX6_wants_12 : decode cX6_wants 12 = .ok (.ishr, 1) := by decide +kernel
theorem dX6_wants_13 : decode cX6_wants 13 = .ok (.iconst 1, 1) := by decide +kernel
theorem dX6_wants_14 : decode cX6_wants 14 = .ok (.iand, 1) := by decide +kernel
theorem dX6_wants_15 : decode cX6_wants 15 = .ok (.iconst 1, 1) := by decide +kernel
theorem dX6_wants_16 : decode cX6_wants 16 = .ok (.if_icmp .ne 7, 3) := by decide +kernel
theorem dX6_wants_19 : decode cX6_wants 19 = .ok (.iconst 1, 1) := by decide +kernel
theorem dX6_wants_20 : decode cX6_wants 20 = .ok (.goto 4, 3) := by decide +kernel
theorem dX6_wants_23 : decode cX6_wants 23 = .ok (.iconst 0, 1) := by decide +kernel
theorem dX6_wants_24 : decode cX6_wants 24 = .ok (.ireturn, 1) := by decide +kernel
theorem dX6_takes_0 : decode cX6_takes 0 = .ok (.aload_n 0, 1) := by decide +kernel
theorem dX6_takes_1 : decode cX6_takes 1 = .ok (.getfield 7, 3) := by decide +kernel
theorem dX6_takes_4 : decode cX6_takes 4 = .ok (.bipush 9, 2) := by decide +kernel
theorem dX6_takes_6 : decode cX6_takes 6 = .ok (.iaload, 1) := by decide +kernel
theorem dX6_takes_7 : decode cX6_takes 7 = .ok (.iload_n 1, 1) := by decide +kernel
theorem dX6_takes_8 : decode cX6_takes 8 = .ok (.if_icmp .eq 18, 3) := by decide +kernel
theorem dX6_takes_11 : decode cX6_takes 11 = .ok (.aload_n 0, 1) := by decide +kernel
theorem dX6_takes_12 : decode cX6_takes 12 = .ok (.getfield 7, 3) := by decide +kernel
theorem dX6_takes_15 : decode cX6_takes 15 = .ok (.bipush 9, 2) := by decide +kernel
theorem dX6_takes_17 : decode cX6_takes 17 = .ok (.iaload, 1) := by decide +kernel
theorem dX6_takes_18 : decode cX6_takes 18 = .ok (.iload_n 2, 1) := by decide +kernel
theorem dX6_takes_19 : decode cX6_takes 19 = .ok (.if_icmp .eq 7, 3) := by decide +kernel
theorem dX6_takes_22 : decode cX6_takes 22 = .ok (.iconst 1, 1) := by decide +kernel
theorem dX6_takes_23 : decode cX6_takes 23 = .ok (.goto 4, 3) := by decide +kernel
theorem dX6_takes_26 : decode cX6_takes 26 = .ok (.iconst 0, 1) := by decide +kernel
theorem dX6_takes_27 : decode cX6_takes 27 = .ok (.istore_n 3, 1) := by decide +kernel
theorem dX6_takes_28 : decode cX6_takes 28 = .ok (.iload_n 1, 1) := by decide +kernel
theorem dX6_takes_29 : decode cX6_takes 29 = .ok (.iload_n 2, 1) := by decide +kernel
theorem dX6_takes_30 : decode cX6_takes 30 = .ok (.if_icmp .eq 36, 3) := by decide +kernel
theorem dX6_takes_33 : decode cX6_takes 33 = .ok (.iload_n 3, 1) := by decide +kernel
theorem dX6_takes_34 : decode cX6_takes 34 = .ok (.ifCond .eq 32, 3) := by decide +kernel
theorem dX6_takes_37 : decode cX6_takes 37 = .ok (.aload_n 0, 1) := by decide +kernel
theorem dX6_takes_38 : decode cX6_takes 38 = .ok (.iload_n 1, 1) := by decide +kernel
theorem dX6_takes_39 : decode cX6_takes 39 = .ok (.invokevirtual 68, 3) := by decide +kernel
theorem dX6_takes_42 : decode cX6_takes 42 = .ok (.ifCond .le 24, 3) := by decide +kernel
theorem dX6_takes_45 : decode cX6_takes 45 = .ok (.aload_n 0, 1) := by decide +kernel
theorem dX6_takes_46 : decode cX6_takes 46 = .ok (.iload_n 2, 1) := by decide +kernel
theorem dX6_takes_47 : decode cX6_takes 47 = .ok (.invokevirtual 68, 3) := by decide +kernel
theorem dX6_takes_50 : decode cX6_takes 50 = .ok (.ifCond .le 16, 3) := by decide +kernel
theorem dX6_takes_53 : decode cX6_takes 53 = .ok (.aload_n 0, 1) := by decide +kernel
theorem dX6_takes_54 : decode cX6_takes 54 = .ok (.iload_n 1, 1) := by decide +kernel
theorem dX6_takes_55 : decode cX6_takes 55 = .ok (.iload_n 2, 1) := by decide +kernel
theorem dX6_takes_56 : decode cX6_takes 56 = .ok (.invokevirtual 72, 3) := by decide +kernel
theorem dX6_takes_59 : decode cX6_takes 59 = .ok (.ifCond .eq 7, 3) := by decide +kernel
theorem dX6_takes_62 : decode cX6_takes 62 = .ok (.iconst 1, 1) := by decide +kernel
theorem dX6_takes_63 : decode cX6_takes 63 = .ok (.goto 4, 3) := by decide +kernel
theorem dX6_takes_66 : decode cX6_takes 66 = .ok (.iconst 0, 1) := by decide +kernel
theorem dX6_takes_67 : decode cX6_takes 67 = .ok (.ireturn, 1) := by decide +kernel
theorem dX6_areCircles_0 : decode cX6_areCircles 0 = .ok (.iconst 1, 1) := by decide +kernel
theorem dX6_areCircles_1 : decode cX6_areCircles 1 = .ok (.istore_n 2, 1) := by decide +kernel
theorem dX6_areCircles_2 : decode cX6_areCircles 2 = .ok (.iconst 0, 1) := by decide +kernel
theorem dX6_areCircles_3 : decode cX6_areCircles 3 = .ok (.istore_n 3, 1) := by decide +kernel
theorem dX6_areCircles_4 : decode cX6_areCircles 4 = .ok (.iload_n 3, 1) := by decide +kernel
theorem dX6_areCircles_5 : decode cX6_areCircles 5 = .ok (.aload_n 0, 1) := by decide +kernel
theorem dX6_areCircles_6 : decode cX6_areCircles 6 = .ok (.getfield 7, 3) := by decide +kernel
theorem dX6_areCircles_9 : decode cX6_areCircles 9 = .ok (.iconst 1, 1) := by decide +kernel
theorem dX6_areCircles_10 : decode cX6_areCircles 10 = .ok (.iaload, 1) := by decide +kernel
theorem dX6_areCircles_11 : decode cX6_areCircles 11 = .ok (.if_icmp .ge 87, 3) := by decide +kernel
theorem dX6_areCircles_14 : decode cX6_areCircles 14 = .ok (.iload_n 2, 1) := by decide +kernel
theorem dX6_areCircles_15 : decode cX6_areCircles 15 = .ok (.ifCond .eq 83, 3) := by decide +kernel
theorem dX6_areCircles_18 : decode cX6_areCircles 18 = .ok (.aload_n 0, 1) := by decide +kernel
theorem dX6_areCircles_19 : decode cX6_areCircles 19 = .ok (.getfield 35, 3) := by decide +kernel
theorem dX6_areCircles_22 : decode cX6_areCircles 22 = .ok (.iload_n 3, 1) := by decide +kernel
theorem dX6_areCircles_23 : decode cX6_areCircles 23 = .ok (.iaload, 1) := by decide +kernel
theorem dX6_areCircles_24 : decode cX6_areCircles 24 = .ok (.bipush (-4), 2) := by decide +kernel
theorem dX6_areCircles_26 : decode cX6_areCircles 26 = .ok (.if_icmp .eq 66, 3) := by decide +kernel
theorem dX6_areCircles_29 : decode cX6_areCircles 29 = .ok (.iconst 1, 1) := by decide +kernel
theorem dX6_areCircles_30 : decode cX6_areCircles 30 = .ok (.istore 4, 2) := by decide +kernel
theorem dX6_areCircles_32 : decode cX6_areCircles 32 = .ok (.aload_n 0, 1) := by decide +kernel
theorem dX6_areCircles_33 : decode cX6_areCircles 33 = .ok (.getfield 35, 3) := by decide +kernel
theorem dX6_areCircles_36 : decode cX6_areCircles 36 = .ok (.iload_n 3, 1) := by decide +kernel
theorem dX6_areCircles_37 : decode cX6_areCircles 37 = .ok (.iaload, 1) := by decide +kernel
theorem dX6_areCircles_38 : decode cX6_areCircles 38 = .ok (.istore 5, 2) := by decide +kernel
theorem dX6_areCircles_40 : decode cX6_areCircles 40 = .ok (.iload 4, 2) := by decide +kernel
theorem dX6_areCircles_42 : decode cX6_areCircles 42 = .ok (.iload_n 1, 1) := by decide +kernel
theorem dX6_areCircles_43 : decode cX6_areCircles 43 = .ok (.if_icmp .gt 31, 3) := by decide +kernel
theorem dX6_areCircles_46 : decode cX6_areCircles 46 = .ok (.iload 5, 2) := by decide +kernel
theorem dX6_areCircles_48 : decode cX6_areCircles 48 = .ok (.iload_n 3, 1) := by decide +kernel
theorem dX6_areCircles_49 : decode cX6_areCircles 49 = .ok (.if_icmp .eq 25, 3) := by decide +kernel
theorem dX6_areCircles_52 : decode cX6_areCircles 52 = .ok (.iload 5, 2) := by decide +kernel
theorem dX6_areCircles_54 : decode cX6_areCircles 54 = .ok (.bipush (-4), 2) := by decide +kernel
theorem dX6_areCircles_56 : decode cX6_areCircles 56 = .ok (.if_icmp .eq 18, 3) := by decide +kernel
theorem dX6_areCircles_59 : decode cX6_areCircles 59 = .ok (.aload_n 0, 1) := by decide +kernel
theorem dX6_areCircles_60 : decode cX6_areCircles 60 = .ok (.getfield 35, 3) := by decide +kernel
theorem dX6_areCircles_63 : decode cX6_areCircles 63 = .ok (.iload 5, 2) := by decide +kernel
theorem dX6_areCircles_65 : decode cX6_areCircles 65 = .ok (.iaload, 1) := by decide +kernel
theorem dX6_areCircles_66 : decode cX6_areCircles 66 = .ok (.istore 5, 2) := by decide +kernel
theorem dX6_areCircles_68 : decode cX6_areCircles 68 = .ok (.iinc 4 1, 3) := by decide +kernel
theorem dX6_areCircles_71 : decode cX6_areCircles 71 = .ok (.goto (-31), 3) := by decide +kernel
theorem dX6_areCircles_74 : decode cX6_areCircles 74 = .ok (.iload 5, 2) := by decide +kernel
theorem dX6_areCircles_76 : decode cX6_areCircles 76 = .ok (.iload_n 3, 1) := by decide +kernel
theorem dX6_areCircles_77 : decode cX6_areCircles 77 = .ok (.if_icmp .ne 13, 3) := by decide +kernel
theorem dX6_areCircles_80 : decode cX6_areCircles 80 = .ok (.iload 4, 2) := by decide +kernel
theorem dX6_areCircles_82 : decode cX6_areCircles 82 = .ok (.iload_n 1, 1) := by decide +kernel
theorem dX6_areCircles_83 : decode cX6_areCircles 83 = .ok (.if_icmp .gt 7, 3) := by decide +kernel
theorem dX6_areCircles_86 : decode cX6_areCircles 86 = .ok (.iconst 1, 1) := by decide +kernel
theorem dX6_areCircles_87 : decode cX6_areCircles 87 = .ok (.goto 4, 3) := by decide +kernel
theorem dX6_areCircles_90 : decode cX6_areCircles 90 = .ok (.iconst 0, 1) := by decide +kernel
theorem dX6_areCircles_91 : decode cX6_areCircles 91 = .ok (.istore_n 2, 1) := by decide +kernel
theorem dX6_areCircles_92 : decode cX6_areCircles 92 = .ok (.iinc 3 1, 3) := by decide +kernel
theorem dX6_areCircles_95 : decode cX6_areCircles 95 = .ok (.goto (-91), 3) := by decide +kernel
theorem dX6_areCircles_98 : decode cX6_areCircles 98 = .ok (.iload_n 2, 1) := by decide +kernel
theorem dX6_areCircles_99 : decode cX6_areCircles 99 = .ok (.ireturn, 1) := by decide +kernel
theorem dX6_keepsBest_0 : decode cX6_keepsBest 0 = .ok (.aload_n 0, 1) := by decide +kernel
theorem dX6_keepsBest_1 : decode cX6_keepsBest 1 = .ok (.iload_n 1, 1) := by decide +kernel
theorem dX6_keepsBest_2 : decode cX6_keepsBest 2 = .ok (.putfield 76, 3) := by decide +kernel
theorem dX6_keepsBest_5 : decode cX6_keepsBest 5 = .ok (.iconst 0, 1) := by decide +kernel
theorem dX6_keepsBest_6 : decode cX6_keepsBest 6 = .ok (.istore_n 2, 1) := by decide +kernel
theorem dX6_keepsBest_7 : decode cX6_keepsBest 7 = .ok (.iload_n 2, 1) := by decide +kernel
theorem dX6_keepsBest_8 : decode cX6_keepsBest 8 = .ok (.bipush 7, 2) := by decide +kernel
theorem dX6_keepsBest_10 : decode cX6_keepsBest 10 = .ok (.if_icmp .ge 21, 3) := by decide +kernel
theorem dX6_keepsBest_13 : decode cX6_keepsBest 13 = .ok (.aload_n 0, 1) := by decide +kernel
theorem dX6_keepsBest_14 : decode cX6_keepsBest 14 = .ok (.getfield 32, 3) := by decide +kernel
theorem dX6_keepsBest_17 : decode cX6_keepsBest 17 = .ok (.iload_n 2, 1) := by decide +kernel
theorem dX6_keepsBest_18 : decode cX6_keepsBest 18 = .ok (.aload_n 0, 1) := by decide +kernel
theorem dX6_keepsBest_19 : decode cX6_keepsBest 19 = .ok (.getfield 35, 3) := by decide +kernel
theorem dX6_keepsBest_22 : decode cX6_keepsBest 22 = .ok (.iload_n 2, 1) := by decide +kernel
theorem dX6_keepsBest_23 : decode cX6_keepsBest 23 = .ok (.iaload, 1) := by decide +kernel
theorem dX6_keepsBest_24 : decode cX6_keepsBest 24 = .ok (.iastore, 1) := by decide +kernel
theorem dX6_keepsBest_25 : decode cX6_keepsBest 25 = .ok (.iinc 2 1, 3) := by decide +kernel
theorem dX6_keepsBest_28 : decode cX6_keepsBest 28 = .ok (.goto (-21), 3) := by decide +kernel
theorem dX6_keepsBest_31 : decode cX6_keepsBest 31 = .ok (.return_, 1) := by decide +kernel
theorem dX6_may_0 : decode cX6_may 0 = .ok (.iload_n 3, 1) := by decide +kernel
theorem dX6_may_1 : decode cX6_may 1 = .ok (.iload_n 2, 1) := by decide +kernel
theorem dX6_may_2 : decode cX6_may 2 = .ok (.ishr, 1) := by decide +kernel
theorem dX6_may_3 : decode cX6_may 3 = .ok (.iconst 1, 1) := by decide +kernel
theorem dX6_may_4 : decode cX6_may 4 = .ok (.iand, 1) := by decide +kernel
theorem dX6_may_5 : decode cX6_may 5 = .ok (.ifCond .ne 16, 3) := by decide +kernel
theorem dX6_may_8 : decode cX6_may 8 = .ok (.aload_n 0, 1) := by decide +kernel
theorem dX6_may_9 : decode cX6_may 9 = .ok (.iload_n 1, 1) := by decide +kernel
theorem dX6_may_10 : decode cX6_may 10 = .ok (.iload_n 2, 1) := by decide +kernel
theorem dX6_may_11 : decode cX6_may 11 = .ok (.invokevirtual 79, 3) := by decide +kernel
theorem dX6_may_14 : decode cX6_may 14 = .ok (.ifCond .eq 7, 3) := by decide +kernel
theorem dX6_may_17 : decode cX6_may 17 = .ok (.iconst 1, 1) := by decide +kernel
theorem dX6_may_18 : decode cX6_may 18 = .ok (.goto 4, 3) := by decide +kernel
theorem dX6_may_21 : decode cX6_may 21 = .ok (.iconst 0, 1) := by decide +kernel
theorem dX6_may_22 : decode cX6_may 22 = .ok (.ireturn, 1) := by decide +kernel
theorem dX6_layBest_0 : decode cX6_layBest 0 = .ok (.aload_n 0, 1) := by decide +kernel
theorem dX6_layBest_1 : decode cX6_layBest 1 = .ok (.getfield 7, 3) := by decide +kernel
theorem dX6_layBest_4 : decode cX6_layBest 4 = .ok (.iconst 1, 1) := by decide +kernel
theorem dX6_layBest_5 : decode cX6_layBest 5 = .ok (.iaload, 1) := by decide +kernel
theorem dX6_layBest_6 : decode cX6_layBest 6 = .ok (.istore_n 2, 1) := by decide +kernel
theorem dX6_layBest_7 : decode cX6_layBest 7 = .ok (.iconst 0, 1) := by decide +kernel
theorem dX6_layBest_8 : decode cX6_layBest 8 = .ok (.istore_n 3, 1) := by decide +kernel
theorem dX6_layBest_9 : decode cX6_layBest 9 = .ok (.iload_n 3, 1) := by decide +kernel
theorem dX6_layBest_10 : decode cX6_layBest 10 = .ok (.bipush 7, 2) := by decide +kernel
theorem dX6_layBest_12 : decode cX6_layBest 12 = .ok (.if_icmp .ge 17, 3) := by decide +kernel
theorem dX6_layBest_15 : decode cX6_layBest 15 = .ok (.aload_n 0, 1) := by decide +kernel
theorem dX6_layBest_16 : decode cX6_layBest 16 = .ok (.getfield 35, 3) := by decide +kernel
theorem dX6_layBest_19 : decode cX6_layBest 19 = .ok (.iload_n 3, 1) := by decide +kernel
theorem dX6_layBest_20 : decode cX6_layBest 20 = .ok (.bipush (-4), 2) := by decide +kernel
theorem dX6_layBest_22 : decode cX6_layBest 22 = .ok (.iastore, 1) := by decide +kernel
theorem dX6_layBest_23 : decode cX6_layBest 23 = .ok (.iinc 3 1, 3) := by decide +kernel
theorem dX6_layBest_26 : decode cX6_layBest 26 = .ok (.goto (-17), 3) := by decide +kernel
theorem dX6_layBest_29 : decode cX6_layBest 29 = .ok (.aload_n 0, 1) := by decide +kernel
theorem dX6_layBest_30 : decode cX6_layBest 30 = .ok (.iconst 0, 1) := by decide +kernel
theorem dX6_layBest_31 : decode cX6_layBest 31 = .ok (.invokevirtual 82, 3) := by decide +kernel
theorem dX6_layBest_34 : decode cX6_layBest 34 = .ok (.iconst 0, 1) := by decide +kernel
theorem dX6_layBest_35 : decode cX6_layBest 35 = .ok (.istore_n 3, 1) := by decide +kernel
theorem dX6_layBest_36 : decode cX6_layBest 36 = .ok (.iconst 0, 1) := by decide +kernel
theorem dX6_layBest_37 : decode cX6_layBest 37 = .ok (.istore 4, 2) := by decide +kernel
theorem dX6_layBest_39 : decode cX6_layBest 39 = .ok (.iconst 0, 1) := by decide +kernel
theorem dX6_layBest_40 : decode cX6_layBest 40 = .ok (.istore 5, 2) := by decide +kernel
theorem dX6_layBest_42 : decode cX6_layBest 42 = .ok (.aload_n 0, 1) := by decide +kernel
theorem dX6_layBest_43 : decode cX6_layBest 43 = .ok (.getfield 38, 3) := by decide +kernel
theorem dX6_layBest_46 : decode cX6_layBest 46 = .ok (.iconst 0, 1) := by decide +kernel
theorem dX6_layBest_47 : decode cX6_layBest 47 = .ok (.iconst 0, 1) := by decide +kernel
theorem dX6_layBest_48 : decode cX6_layBest 48 = .ok (.iastore, 1) := by decide +kernel
theorem dX6_layBest_49 : decode cX6_layBest 49 = .ok (.iload_n 3, 1) := by decide +kernel
theorem dX6_layBest_50 : decode cX6_layBest 50 = .ok (.ifCond .lt 192, 3) := by decide +kernel
theorem dX6_layBest_53 : decode cX6_layBest 53 = .ok (.iload_n 3, 1) := by decide +kernel
theorem dX6_layBest_54 : decode cX6_layBest 54 = .ok (.iload_n 2, 1) := by decide +kernel
theorem dX6_layBest_55 : decode cX6_layBest 55 = .ok (.if_icmp .ne 32, 3) := by decide +kernel
theorem dX6_layBest_58 : decode cX6_layBest 58 = .ok (.iload 5, 2) := by decide +kernel
theorem dX6_layBest_60 : decode cX6_layBest 60 = .ok (.aload_n 0, 1) := by decide +kernel
theorem dX6_layBest_61 : decode cX6_layBest 61 = .ok (.getfield 76, 3) := by decide +kernel
theorem dX6_layBest_64 : decode cX6_layBest 64 = .ok (.if_icmp .le 17, 3) := by decide +kernel
theorem dX6_layBest_67 : decode cX6_layBest 67 = .ok (.aload_n 0, 1) := by decide +kernel
theorem dX6_layBest_68 : decode cX6_layBest 68 = .ok (.iload_n 1, 1) := by decide +kernel
theorem dX6_layBest_69 : decode cX6_layBest 69 = .ok (.invokevirtual 86, 3) := by decide +kernel
theorem dX6_layBest_72 : decode cX6_layBest 72 = .ok (.ifCond .eq 9, 3) := by decide +kernel
theorem dX6_layBest_75 : decode cX6_layBest 75 = .ok (.aload_n 0, 1) := by decide +kernel
theorem dX6_layBest_76 : decode cX6_layBest 76 = .ok (.iload 5, 2) := by decide +kernel
theorem dX6_layBest_78 : decode cX6_layBest 78 = .ok (.invokevirtual 82, 3) := by decide +kernel
theorem dX6_layBest_81 : decode cX6_layBest 81 = .ok (.iinc 3 (-1), 3) := by decide +kernel
theorem dX6_layBest_84 : decode cX6_layBest 84 = .ok (.goto (-35), 3) := by decide +kernel
theorem dX6_layBest_87 : decode cX6_layBest 87 = .ok (.aload_n 0, 1) := by decide +kernel
theorem dX6_layBest_88 : decode cX6_layBest 88 = .ok (.getfield 35, 3) := by decide +kernel
theorem dX6_layBest_91 : decode cX6_layBest 91 = .ok (.iload_n 3, 1) := by decide +kernel
theorem dX6_layBest_92 : decode cX6_layBest 92 = .ok (.iaload, 1) := by decide +kernel
theorem dX6_layBest_93 : decode cX6_layBest 93 = .ok (.bipush (-4), 2) := by decide +kernel
theorem dX6_layBest_95 : decode cX6_layBest 95 = .ok (.if_icmp .eq 29, 3) := by decide +kernel
theorem dX6_layBest_98 : decode cX6_layBest 98 = .ok (.iload 4, 2) := by decide +kernel
theorem dX6_layBest_100 : decode cX6_layBest 100 = .ok (.iconst 1, 1) := by decide +kernel
theorem dX6_layBest_101 : decode cX6_layBest 101 = .ok (.aload_n 0, 1) := by decide +kernel
theorem dX6_layBest_102 : decode cX6_layBest 102 = .ok (.getfield 35, 3) := by decide +kernel
theorem dX6_layBest_105 : decode cX6_layBest 105 = .ok (.iload_n 3, 1) := by decide +kernel
theorem dX6_layBest_106 : decode cX6_layBest 106 = .ok (.iaload, 1) := by decide +kernel
theorem dX6_layBest_107 : decode cX6_layBest 107 = .ok (.ishl, 1) := by decide +kernel
theorem dX6_layBest_108 : decode cX6_layBest 108 = .ok (.iconst (-1), 1) := by decide +kernel
theorem dX6_layBest_109 : decode cX6_layBest 109 = .ok (.ixor, 1) := by decide +kernel
theorem dX6_layBest_110 : decode cX6_layBest 110 = .ok (.iand, 1) := by decide +kernel
theorem dX6_layBest_111 : decode cX6_layBest 111 = .ok (.istore 4, 2) := by decide +kernel
theorem dX6_layBest_113 : decode cX6_layBest 113 = .ok (.iinc 5 (-1), 3) := by decide +kernel
theorem dX6_layBest_116 : decode cX6_layBest 116 = .ok (.aload_n 0, 1) := by decide +kernel
theorem dX6_layBest_117 : decode cX6_layBest 117 = .ok (.getfield 35, 3) := by decide +kernel
theorem dX6_layBest_120 : decode cX6_layBest 120 = .ok (.iload_n 3, 1) := by decide +kernel
theorem dX6_layBest_121 : decode cX6_layBest 121 = .ok (.bipush (-4), 2) := by decide +kernel
theorem dX6_layBest_123 : decode cX6_layBest 123 = .ok (.iastore, 1) := by decide +kernel
theorem dX6_layBest_124 : decode cX6_layBest 124 = .ok (.aload_n 0, 1) := by decide +kernel
theorem dX6_layBest_125 : decode cX6_layBest 125 = .ok (.getfield 38, 3) := by decide +kernel
theorem dX6_layBest_128 : decode cX6_layBest 128 = .ok (.iload_n 3, 1) := by decide +kernel
theorem dX6_layBest_129 : decode cX6_layBest 129 = .ok (.iaload, 1) := by decide +kernel
theorem dX6_layBest_130 : decode cX6_layBest 130 = .ok (.istore 6, 2) := by decide +kernel
theorem dX6_layBest_132 : decode cX6_layBest 132 = .ok (.iload 6, 2) := by decide +kernel
theorem dX6_layBest_134 : decode cX6_layBest 134 = .ok (.iload_n 2, 1) := by decide +kernel
theorem dX6_layBest_135 : decode cX6_layBest 135 = .ok (.if_icmp .ge 21, 3) := by decide +kernel
theorem dX6_layBest_138 : decode cX6_layBest 138 = .ok (.aload_n 0, 1) := by decide +kernel
theorem dX6_layBest_139 : decode cX6_layBest 139 = .ok (.iload_n 3, 1) := by decide +kernel
theorem dX6_layBest_140 : decode cX6_layBest 140 = .ok (.iload 6, 2) := by decide +kernel
theorem dX6_layBest_142 : decode cX6_layBest 142 = .ok (.iload 4, 2) := by decide +kernel
theorem dX6_layBest_144 : decode cX6_layBest 144 = .ok (.invokevirtual 89, 3) := by decide +kernel
theorem dX6_layBest_147 : decode cX6_layBest 147 = .ok (.ifCond .ne 9, 3) := by decide +kernel
theorem dX6_layBest_150 : decode cX6_layBest 150 = .ok (.iinc 6 1, 3) := by decide +kernel
theorem dX6_layBest_153 : decode cX6_layBest 153 = .ok (.goto (-21), 3) := by decide +kernel
theorem dX6_layBest_156 : decode cX6_layBest 156 = .ok (.aload_n 0, 1) := by decide +kernel
theorem dX6_layBest_157 : decode cX6_layBest 157 = .ok (.getfield 38, 3) := by decide +kernel
theorem dX6_layBest_160 : decode cX6_layBest 160 = .ok (.iload_n 3, 1) := by decide +kernel
theorem dX6_layBest_161 : decode cX6_layBest 161 = .ok (.iload 6, 2) := by decide +kernel
theorem dX6_layBest_163 : decode cX6_layBest 163 = .ok (.iconst 1, 1) := by decide +kernel
theorem dX6_layBest_164 : decode cX6_layBest 164 = .ok (.iadd, 1) := by decide +kernel
theorem dX6_layBest_165 : decode cX6_layBest 165 = .ok (.iastore, 1) := by decide +kernel
theorem dX6_layBest_166 : decode cX6_layBest 166 = .ok (.iload 5, 2) := by decide +kernel
theorem dX6_layBest_168 : decode cX6_layBest 168 = .ok (.iload_n 2, 1) := by decide +kernel
theorem dX6_layBest_169 : decode cX6_layBest 169 = .ok (.iadd, 1) := by decide +kernel
theorem dX6_layBest_170 : decode cX6_layBest 170 = .ok (.iload_n 3, 1) := by decide +kernel
theorem dX6_layBest_171 : decode cX6_layBest 171 = .ok (.isub, 1) := by decide +kernel
theorem dX6_layBest_172 : decode cX6_layBest 172 = .ok (.aload_n 0, 1) := by decide +kernel
theorem dX6_layBest_173 : decode cX6_layBest 173 = .ok (.getfield 76, 3) := by decide +kernel
theorem dX6_layBest_176 : decode cX6_layBest 176 = .ok (.if_icmp .gt 7, 3) := by decide +kernel
theorem dX6_layBest_179 : decode cX6_layBest 179 = .ok (.iconst 1, 1) := by decide +kernel
theorem dX6_layBest_180 : decode cX6_layBest 180 = .ok (.goto 4, 3) := by decide +kernel
theorem dX6_layBest_183 : decode cX6_layBest 183 = .ok (.iconst 0, 1) := by decide +kernel
theorem dX6_layBest_184 : decode cX6_layBest 184 = .ok (.istore 7, 2) := by decide +kernel
theorem dX6_layBest_186 : decode cX6_layBest 186 = .ok (.iload 6, 2) := by decide +kernel
theorem dX6_layBest_188 : decode cX6_layBest 188 = .ok (.iload_n 2, 1) := by decide +kernel
theorem dX6_layBest_189 : decode cX6_layBest 189 = .ok (.if_icmp .gt 8, 3) := by decide +kernel
theorem dX6_layBest_192 : decode cX6_layBest 192 = .ok (.iload 7, 2) := by decide +kernel
theorem dX6_layBest_194 : decode cX6_layBest 194 = .ok (.ifCond .eq 9, 3) := by decide +kernel
theorem dX6_layBest_197 : decode cX6_layBest 197 = .ok (.iinc 3 (-1), 3) := by decide +kernel
theorem dX6_layBest_200 : decode cX6_layBest 200 = .ok (.goto 39, 3) := by decide +kernel
theorem dX6_layBest_203 : decode cX6_layBest 203 = .ok (.iload 6, 2) := by decide +kernel
theorem dX6_layBest_205 : decode cX6_layBest 205 = .ok (.iload_n 2, 1) := by decide +kernel
theorem dX6_layBest_206 : decode cX6_layBest 206 = .ok (.if_icmp .ge 23, 3) := by decide +kernel
theorem dX6_layBest_209 : decode cX6_layBest 209 = .ok (.aload_n 0, 1) := by decide +kernel
theorem dX6_layBest_210 : decode cX6_layBest 210 = .ok (.getfield 35, 3) := by decide +kernel
theorem dX6_layBest_213 : decode cX6_layBest 213 = .ok (.iload_n 3, 1) := by decide +kernel
theorem dX6_layBest_214 : decode cX6_layBest 214 = .ok (.iload 6, 2) := by decide +kernel
theorem dX6_layBest_216 : decode cX6_layBest 216 = .ok (.iastore, 1) := by decide +kernel
theorem dX6_layBest_217 : decode cX6_layBest 217 = .ok (.iload 4, 2) := by decide +kernel
theorem dX6_layBest_219 : decode cX6_layBest 219 = .ok (.iconst 1, 1) := by decide +kernel
theorem dX6_layBest_220 : decode cX6_layBest 220 = .ok (.iload 6, 2) := by decide +kernel
theorem dX6_layBest_222 : decode cX6_layBest 222 = .ok (.ishl, 1) := by decide +kernel
theorem dX6_layBest_223 : decode cX6_layBest 223 = .ok (.ior, 1) := by decide +kernel
theorem dX6_layBest_224 : decode cX6_layBest 224 = .ok (.istore 4, 2) := by decide +kernel
theorem dX6_layBest_226 : decode cX6_layBest 226 = .ok (.iinc 5 1, 3) := by decide +kernel
theorem dX6_layBest_229 : decode cX6_layBest 229 = .ok (.iinc 3 1, 3) := by decide +kernel
theorem dX6_layBest_232 : decode cX6_layBest 232 = .ok (.aload_n 0, 1) := by decide +kernel
theorem dX6_layBest_233 : decode cX6_layBest 233 = .ok (.getfield 38, 3) := by decide +kernel
theorem dX6_layBest_236 : decode cX6_layBest 236 = .ok (.iload_n 3, 1) := by decide +kernel
theorem dX6_layBest_237 : decode cX6_layBest 237 = .ok (.iconst 0, 1) := by decide +kernel
theorem dX6_layBest_238 : decode cX6_layBest 238 = .ok (.iastore, 1) := by decide +kernel
theorem dX6_layBest_239 : decode cX6_layBest 239 = .ok (.goto (-190), 3) := by decide +kernel
theorem dX6_layBest_242 : decode cX6_layBest 242 = .ok (.return_, 1) := by decide +kernel
theorem dX6_gets_0 : decode cX6_gets 0 = .ok (.aload_n 0, 1) := by decide +kernel
theorem dX6_gets_1 : decode cX6_gets 1 = .ok (.getfield 7, 3) := by decide +kernel
theorem dX6_gets_4 : decode cX6_gets 4 = .ok (.iload_n 1, 1) := by decide +kernel
theorem dX6_gets_5 : decode cX6_gets 5 = .ok (.iconst 2, 1) := by decide +kernel
theorem dX6_gets_6 : decode cX6_gets 6 = .ok (.invokestatic 59, 3) := by decide +kernel
theorem dX6_gets_9 : decode cX6_gets 9 = .ok (.iload_n 2, 1) := by decide +kernel
theorem dX6_gets_10 : decode cX6_gets 10 = .ok (.iastore, 1) := by decide +kernel
theorem dX6_gets_11 : decode cX6_gets 11 = .ok (.aload_n 0, 1) := by decide +kernel
theorem dX6_gets_12 : decode cX6_gets 12 = .ok (.getfield 7, 3) := by decide +kernel
theorem dX6_gets_15 : decode cX6_gets 15 = .ok (.iload_n 1, 1) := by decide +kernel
theorem dX6_gets_16 : decode cX6_gets 16 = .ok (.iconst 3, 1) := by decide +kernel
theorem dX6_gets_17 : decode cX6_gets 17 = .ok (.invokestatic 59, 3) := by decide +kernel
theorem dX6_gets_20 : decode cX6_gets 20 = .ok (.iload_n 3, 1) := by decide +kernel
theorem dX6_gets_21 : decode cX6_gets 21 = .ok (.iastore, 1) := by decide +kernel
theorem dX6_gets_22 : decode cX6_gets 22 = .ok (.aload_n 0, 1) := by decide +kernel
theorem dX6_gets_23 : decode cX6_gets 23 = .ok (.getfield 7, 3) := by decide +kernel
theorem dX6_gets_26 : decode cX6_gets 26 = .ok (.iload_n 1, 1) := by decide +kernel
theorem dX6_gets_27 : decode cX6_gets 27 = .ok (.iconst 1, 1) := by decide +kernel
theorem dX6_gets_28 : decode cX6_gets 28 = .ok (.invokestatic 59, 3) := by decide +kernel
theorem dX6_gets_31 : decode cX6_gets 31 = .ok (.dup2, 1) := by decide +kernel
theorem dX6_gets_32 : decode cX6_gets 32 = .ok (.iaload, 1) := by decide +kernel
theorem dX6_gets_33 : decode cX6_gets 33 = .ok (.iconst 1, 1) := by decide +kernel
theorem dX6_gets_34 : decode cX6_gets 34 = .ok (.iload_n 2, 1) := by decide +kernel
theorem dX6_gets_35 : decode cX6_gets 35 = .ok (.ishl, 1) := by decide +kernel
theorem dX6_gets_36 : decode cX6_gets 36 = .ok (.iconst (-1), 1) := by decide +kernel
theorem dX6_gets_37 : decode cX6_gets 37 = .ok (.ixor, 1) := by decide +kernel
theorem dX6_gets_38 : decode cX6_gets 38 = .ok (.iand, 1) := by decide +kernel
theorem dX6_gets_39 : decode cX6_gets 39 = .ok (.iastore, 1) := by decide +kernel
theorem dX6_gets_40 : decode cX6_gets 40 = .ok (.aload_n 0, 1) := by decide +kernel
theorem dX6_gets_41 : decode cX6_gets 41 = .ok (.getfield 7, 3) := by decide +kernel
theorem dX6_gets_44 : decode cX6_gets 44 = .ok (.iload_n 1, 1) := by decide +kernel
theorem dX6_gets_45 : decode cX6_gets 45 = .ok (.iconst 4, 1) := by decide +kernel
theorem dX6_gets_46 : decode cX6_gets 46 = .ok (.invokestatic 59, 3) := by decide +kernel
theorem dX6_gets_49 : decode cX6_gets 49 = .ok (.dup2, 1) := by decide +kernel
theorem dX6_gets_50 : decode cX6_gets 50 = .ok (.iaload, 1) := by decide +kernel
theorem dX6_gets_51 : decode cX6_gets 51 = .ok (.iconst 1, 1) := by decide +kernel
theorem dX6_gets_52 : decode cX6_gets 52 = .ok (.iadd, 1) := by decide +kernel
theorem dX6_gets_53 : decode cX6_gets 53 = .ok (.iastore, 1) := by decide +kernel
theorem dX6_gets_54 : decode cX6_gets 54 = .ok (.aload_n 0, 1) := by decide +kernel
theorem dX6_gets_55 : decode cX6_gets 55 = .ok (.getfield 7, 3) := by decide +kernel
theorem dX6_gets_58 : decode cX6_gets 58 = .ok (.iload_n 2, 1) := by decide +kernel
theorem dX6_gets_59 : decode cX6_gets 59 = .ok (.iconst 1, 1) := by decide +kernel
theorem dX6_gets_60 : decode cX6_gets 60 = .ok (.invokestatic 47, 3) := by decide +kernel
theorem dX6_gets_63 : decode cX6_gets 63 = .ok (.dup2, 1) := by decide +kernel
theorem dX6_gets_64 : decode cX6_gets 64 = .ok (.iaload, 1) := by decide +kernel
theorem dX6_gets_65 : decode cX6_gets 65 = .ok (.iconst 1, 1) := by decide +kernel
theorem dX6_gets_66 : decode cX6_gets 66 = .ok (.iadd, 1) := by decide +kernel
theorem dX6_gets_67 : decode cX6_gets 67 = .ok (.iastore, 1) := by decide +kernel
theorem dX6_gets_68 : decode cX6_gets 68 = .ok (.aload_n 0, 1) := by decide +kernel
theorem dX6_gets_69 : decode cX6_gets 69 = .ok (.getfield 7, 3) := by decide +kernel
theorem dX6_gets_72 : decode cX6_gets 72 = .ok (.iconst 2, 1) := by decide +kernel
theorem dX6_gets_73 : decode cX6_gets 73 = .ok (.dup2, 1) := by decide +kernel
theorem dX6_gets_74 : decode cX6_gets 74 = .ok (.iaload, 1) := by decide +kernel
theorem dX6_gets_75 : decode cX6_gets 75 = .ok (.iconst 1, 1) := by decide +kernel
theorem dX6_gets_76 : decode cX6_gets 76 = .ok (.iadd, 1) := by decide +kernel
theorem dX6_gets_77 : decode cX6_gets 77 = .ok (.iastore, 1) := by decide +kernel
theorem dX6_gets_78 : decode cX6_gets 78 = .ok (.return_, 1) := by decide +kernel
theorem dX6_looksAtWares_0 : decode cX6_looksAtWares 0 = .ok (.iconst 0, 1) := by decide +kernel
theorem dX6_looksAtWares_1 : decode cX6_looksAtWares 1 = .ok (.istore_n 1, 1) := by decide +kernel
theorem dX6_looksAtWares_2 : decode cX6_looksAtWares 2 = .ok (.iload_n 1, 1) := by decide +kernel
theorem dX6_looksAtWares_3 : decode cX6_looksAtWares 3 = .ok (.bipush 7, 2) := by decide +kernel
theorem dX6_looksAtWares_5 : decode cX6_looksAtWares 5 = .ok (.if_icmp .ge 33, 3) := by decide +kernel
theorem dX6_looksAtWares_8 : decode cX6_looksAtWares 8 = .ok (.aload_n 0, 1) := by decide +kernel
theorem dX6_looksAtWares_9 : decode cX6_looksAtWares 9 = .ok (.getfield 41, 3) := by decide +kernel
theorem dX6_looksAtWares_12 : decode cX6_looksAtWares 12 = .ok (.iload_n 1, 1) := by decide +kernel
theorem dX6_looksAtWares_13 : decode cX6_looksAtWares 13 = .ok (.aload_n 0, 1) := by decide +kernel
theorem dX6_looksAtWares_14 : decode cX6_looksAtWares 14 = .ok (.iload_n 1, 1) := by decide +kernel
theorem dX6_looksAtWares_15 : decode cX6_looksAtWares 15 = .ok (.iconst 2, 1) := by decide +kernel
theorem dX6_looksAtWares_16 : decode cX6_looksAtWares 16 = .ok (.invokevirtual 65, 3) := by decide +kernel
theorem dX6_looksAtWares_19 : decode cX6_looksAtWares 19 = .ok (.iastore, 1) := by decide +kernel
theorem dX6_looksAtWares_20 : decode cX6_looksAtWares 20 = .ok (.aload_n 0, 1) := by decide +kernel
theorem dX6_looksAtWares_21 : decode cX6_looksAtWares 21 = .ok (.getfield 44, 3) := by decide +kernel
theorem dX6_looksAtWares_24 : decode cX6_looksAtWares 24 = .ok (.iload_n 1, 1) := by decide +kernel
theorem dX6_looksAtWares_25 : decode cX6_looksAtWares 25 = .ok (.aload_n 0, 1) := by decide +kernel
theorem dX6_looksAtWares_26 : decode cX6_looksAtWares 26 = .ok (.iload_n 1, 1) := by decide +kernel
theorem dX6_looksAtWares_27 : decode cX6_looksAtWares 27 = .ok (.iconst 3, 1) := by decide +kernel
theorem dX6_looksAtWares_28 : decode cX6_looksAtWares 28 = .ok (.invokevirtual 65, 3) := by decide +kernel
theorem dX6_looksAtWares_31 : decode cX6_looksAtWares 31 = .ok (.iastore, 1) := by decide +kernel
theorem dX6_looksAtWares_32 : decode cX6_looksAtWares 32 = .ok (.iinc 1 1, 3) := by decide +kernel
theorem dX6_looksAtWares_35 : decode cX6_looksAtWares 35 = .ok (.goto (-33), 3) := by decide +kernel
theorem dX6_looksAtWares_38 : decode cX6_looksAtWares 38 = .ok (.return_, 1) := by decide +kernel
theorem dX6_calls_0 : decode cX6_calls 0 = .ok (.aload_n 0, 1) := by decide +kernel
theorem dX6_calls_1 : decode cX6_calls 1 = .ok (.aload_n 0, 1) := by decide +kernel
theorem dX6_calls_2 : decode cX6_calls 2 = .ok (.getfield 7, 3) := by decide +kernel
theorem dX6_calls_5 : decode cX6_calls 5 = .ok (.bipush 7, 2) := by decide +kernel
theorem dX6_calls_7 : decode cX6_calls 7 = .ok (.iaload, 1) := by decide +kernel
theorem dX6_calls_8 : decode cX6_calls 8 = .ok (.invokevirtual 92, 3) := by decide +kernel
theorem dX6_calls_11 : decode cX6_calls 11 = .ok (.aload_n 0, 1) := by decide +kernel
theorem dX6_calls_12 : decode cX6_calls 12 = .ok (.invokevirtual 95, 3) := by decide +kernel
theorem dX6_calls_15 : decode cX6_calls 15 = .ok (.iconst 0, 1) := by decide +kernel
theorem dX6_calls_16 : decode cX6_calls 16 = .ok (.istore_n 1, 1) := by decide +kernel
theorem dX6_calls_17 : decode cX6_calls 17 = .ok (.iload_n 1, 1) := by decide +kernel
theorem dX6_calls_18 : decode cX6_calls 18 = .ok (.aload_n 0, 1) := by decide +kernel
theorem dX6_calls_19 : decode cX6_calls 19 = .ok (.getfield 7, 3) := by decide +kernel
theorem dX6_calls_22 : decode cX6_calls 22 = .ok (.iconst 1, 1) := by decide +kernel
theorem dX6_calls_23 : decode cX6_calls 23 = .ok (.iaload, 1) := by decide +kernel
theorem dX6_calls_24 : decode cX6_calls 24 = .ok (.if_icmp .ge 47, 3) := by decide +kernel
theorem dX6_calls_27 : decode cX6_calls 27 = .ok (.aload_n 0, 1) := by decide +kernel
theorem dX6_calls_28 : decode cX6_calls 28 = .ok (.getfield 32, 3) := by decide +kernel
theorem dX6_calls_31 : decode cX6_calls 31 = .ok (.iload_n 1, 1) := by decide +kernel
theorem dX6_calls_32 : decode cX6_calls 32 = .ok (.iaload, 1) := by decide +kernel
theorem dX6_calls_33 : decode cX6_calls 33 = .ok (.bipush (-4), 2) := by decide +kernel
theorem dX6_calls_35 : decode cX6_calls 35 = .ok (.if_icmp .eq 30, 3) := by decide +kernel
theorem dX6_calls_38 : decode cX6_calls 38 = .ok (.aload_n 0, 1) := by decide +kernel
theorem dX6_calls_39 : decode cX6_calls 39 = .ok (.iload_n 1, 1) := by decide +kernel
theorem dX6_calls_40 : decode cX6_calls 40 = .ok (.aload_n 0, 1) := by decide +kernel
theorem dX6_calls_41 : decode cX6_calls 41 = .ok (.getfield 41, 3) := by decide +kernel
theorem dX6_calls_44 : decode cX6_calls 44 = .ok (.aload_n 0, 1) := by decide +kernel
theorem dX6_calls_45 : decode cX6_calls 45 = .ok (.getfield 32, 3) := by decide +kernel
theorem dX6_calls_48 : decode cX6_calls 48 = .ok (.iload_n 1, 1) := by decide +kernel
theorem dX6_calls_49 : decode cX6_calls 49 = .ok (.iaload, 1) := by decide +kernel
theorem dX6_calls_50 : decode cX6_calls 50 = .ok (.iaload, 1) := by decide +kernel
theorem dX6_calls_51 : decode cX6_calls 51 = .ok (.aload_n 0, 1) := by decide +kernel
theorem dX6_calls_52 : decode cX6_calls 52 = .ok (.getfield 44, 3) := by decide +kernel
theorem dX6_calls_55 : decode cX6_calls 55 = .ok (.aload_n 0, 1) := by decide +kernel
theorem dX6_calls_56 : decode cX6_calls 56 = .ok (.getfield 32, 3) := by decide +kernel
theorem dX6_calls_59 : decode cX6_calls 59 = .ok (.iload_n 1, 1) := by decide +kernel
theorem dX6_calls_60 : decode cX6_calls 60 = .ok (.iaload, 1) := by decide +kernel
theorem dX6_calls_61 : decode cX6_calls 61 = .ok (.iaload, 1) := by decide +kernel
theorem dX6_calls_62 : decode cX6_calls 62 = .ok (.invokevirtual 98, 3) := by decide +kernel
theorem dX6_calls_65 : decode cX6_calls 65 = .ok (.iinc 1 1, 3) := by decide +kernel
theorem dX6_calls_68 : decode cX6_calls 68 = .ok (.goto (-51), 3) := by decide +kernel
theorem dX6_calls_71 : decode cX6_calls 71 = .ok (.aload_n 0, 1) := by decide +kernel
theorem dX6_calls_72 : decode cX6_calls 72 = .ok (.getfield 7, 3) := by decide +kernel
theorem dX6_calls_75 : decode cX6_calls 75 = .ok (.iconst 5, 1) := by decide +kernel
theorem dX6_calls_76 : decode cX6_calls 76 = .ok (.dup2, 1) := by decide +kernel
theorem dX6_calls_77 : decode cX6_calls 77 = .ok (.iaload, 1) := by decide +kernel
theorem dX6_calls_78 : decode cX6_calls 78 = .ok (.iconst 1, 1) := by decide +kernel
theorem dX6_calls_79 : decode cX6_calls 79 = .ok (.iadd, 1) := by decide +kernel
theorem dX6_calls_80 : decode cX6_calls 80 = .ok (.iastore, 1) := by decide +kernel
theorem dX6_calls_81 : decode cX6_calls 81 = .ok (.aload_n 0, 1) := by decide +kernel
theorem dX6_calls_82 : decode cX6_calls 82 = .ok (.getfield 76, 3) := by decide +kernel
theorem dX6_calls_85 : decode cX6_calls 85 = .ok (.ireturn, 1) := by decide +kernel
theorem dX6_reason_0 : decode cX6_reason 0 = .ok (.aload_n 0, 1) := by decide +kernel
theorem dX6_reason_1 : decode cX6_reason 1 = .ok (.getfield 7, 3) := by decide +kernel
theorem dX6_reason_4 : decode cX6_reason 4 = .ok (.bipush 9, 2) := by decide +kernel
theorem dX6_reason_6 : decode cX6_reason 6 = .ok (.iaload, 1) := by decide +kernel
theorem dX6_reason_7 : decode cX6_reason 7 = .ok (.iload_n 1, 1) := by decide +kernel
theorem dX6_reason_8 : decode cX6_reason 8 = .ok (.if_icmp .eq 14, 3) := by decide +kernel
theorem dX6_reason_11 : decode cX6_reason 11 = .ok (.aload_n 0, 1) := by decide +kernel
theorem dX6_reason_12 : decode cX6_reason 12 = .ok (.getfield 7, 3) := by decide +kernel
theorem dX6_reason_15 : decode cX6_reason 15 = .ok (.bipush 9, 2) := by decide +kernel
theorem dX6_reason_17 : decode cX6_reason 17 = .ok (.iaload, 1) := by decide +kernel
theorem dX6_reason_18 : decode cX6_reason 18 = .ok (.iload_n 2, 1) := by decide +kernel
theorem dX6_reason_19 : decode cX6_reason 19 = .ok (.if_icmp .ne 5, 3) := by decide +kernel
theorem dX6_reason_22 : decode cX6_reason 22 = .ok (.iconst 1, 1) := by decide +kernel
theorem dX6_reason_23 : decode cX6_reason 23 = .ok (.ireturn, 1) := by decide +kernel
theorem dX6_reason_24 : decode cX6_reason 24 = .ok (.aload_n 0, 1) := by decide +kernel
theorem dX6_reason_25 : decode cX6_reason 25 = .ok (.iload_n 1, 1) := by decide +kernel
theorem dX6_reason_26 : decode cX6_reason 26 = .ok (.invokevirtual 68, 3) := by decide +kernel
theorem dX6_reason_29 : decode cX6_reason 29 = .ok (.ifCond .eq 11, 3) := by decide +kernel
theorem dX6_reason_32 : decode cX6_reason 32 = .ok (.aload_n 0, 1) := by decide +kernel
theorem dX6_reason_33 : decode cX6_reason 33 = .ok (.iload_n 2, 1) := by decide +kernel
theorem dX6_reason_34 : decode cX6_reason 34 = .ok (.invokevirtual 68, 3) := by decide +kernel
theorem dX6_reason_37 : decode cX6_reason 37 = .ok (.ifCond .ne 5, 3) := by decide +kernel
theorem dX6_reason_40 : decode cX6_reason 40 = .ok (.iconst 2, 1) := by decide +kernel
theorem dX6_reason_41 : decode cX6_reason 41 = .ok (.ireturn, 1) := by decide +kernel
theorem dX6_reason_42 : decode cX6_reason 42 = .ok (.aload_n 0, 1) := by decide +kernel
theorem dX6_reason_43 : decode cX6_reason 43 = .ok (.iload_n 1, 1) := by decide +kernel
theorem dX6_reason_44 : decode cX6_reason 44 = .ok (.iload_n 2, 1) := by decide +kernel
theorem dX6_reason_45 : decode cX6_reason 45 = .ok (.invokevirtual 72, 3) := by decide +kernel
theorem dX6_reason_48 : decode cX6_reason 48 = .ok (.ifCond .ne 7, 3) := by decide +kernel
theorem dX6_reason_51 : decode cX6_reason 51 = .ok (.iconst 3, 1) := by decide +kernel
theorem dX6_reason_52 : decode cX6_reason 52 = .ok (.goto 17, 3) := by decide +kernel
theorem dX6_reason_55 : decode cX6_reason 55 = .ok (.aload_n 0, 1) := by decide +kernel
theorem dX6_reason_56 : decode cX6_reason 56 = .ok (.iload_n 2, 1) := by decide +kernel
theorem dX6_reason_57 : decode cX6_reason 57 = .ok (.iload_n 1, 1) := by decide +kernel
theorem dX6_reason_58 : decode cX6_reason 58 = .ok (.invokevirtual 72, 3) := by decide +kernel
theorem dX6_reason_61 : decode cX6_reason 61 = .ok (.ifCond .ne 7, 3) := by decide +kernel
theorem dX6_reason_64 : decode cX6_reason 64 = .ok (.iconst 4, 1) := by decide +kernel
theorem dX6_reason_65 : decode cX6_reason 65 = .ok (.goto 4, 3) := by decide +kernel
theorem dX6_reason_68 : decode cX6_reason 68 = .ok (.iconst 0, 1) := by decide +kernel
theorem dX6_reason_69 : decode cX6_reason 69 = .ok (.ireturn, 1) := by decide +kernel
theorem dX6_barters_0 : decode cX6_barters 0 = .ok (.aload_n 0, 1) := by decide +kernel
theorem dX6_barters_1 : decode cX6_barters 1 = .ok (.iload_n 1, 1) := by decide +kernel
theorem dX6_barters_2 : decode cX6_barters 2 = .ok (.iload_n 2, 1) := by decide +kernel
theorem dX6_barters_3 : decode cX6_barters 3 = .ok (.invokevirtual 102, 3) := by decide +kernel
theorem dX6_barters_6 : decode cX6_barters 6 = .ok (.istore_n 3, 1) := by decide +kernel
theorem dX6_barters_7 : decode cX6_barters 7 = .ok (.iload_n 3, 1) := by decide +kernel
theorem dX6_barters_8 : decode cX6_barters 8 = .ok (.ifCond .le 16, 3) := by decide +kernel
theorem dX6_barters_11 : decode cX6_barters 11 = .ok (.aload_n 0, 1) := by decide +kernel
theorem dX6_barters_12 : decode cX6_barters 12 = .ok (.getfield 7, 3) := by decide +kernel
theorem dX6_barters_15 : decode cX6_barters 15 = .ok (.bipush 6, 2) := by decide +kernel
theorem dX6_barters_17 : decode cX6_barters 17 = .ok (.dup2, 1) := by decide +kernel
theorem dX6_barters_18 : decode cX6_barters 18 = .ok (.iaload, 1) := by decide +kernel
theorem dX6_barters_19 : decode cX6_barters 19 = .ok (.iconst 1, 1) := by decide +kernel
theorem dX6_barters_20 : decode cX6_barters 20 = .ok (.iadd, 1) := by decide +kernel
theorem dX6_barters_21 : decode cX6_barters 21 = .ok (.iastore, 1) := by decide +kernel
theorem dX6_barters_22 : decode cX6_barters 22 = .ok (.iload_n 3, 1) := by decide +kernel
theorem dX6_barters_23 : decode cX6_barters 23 = .ok (.ireturn, 1) := by decide +kernel
theorem dX6_barters_24 : decode cX6_barters 24 = .ok (.aload_n 0, 1) := by decide +kernel
theorem dX6_barters_25 : decode cX6_barters 25 = .ok (.invokevirtual 95, 3) := by decide +kernel
theorem dX6_barters_28 : decode cX6_barters 28 = .ok (.aload_n 0, 1) := by decide +kernel
theorem dX6_barters_29 : decode cX6_barters 29 = .ok (.iload_n 1, 1) := by decide +kernel
theorem dX6_barters_30 : decode cX6_barters 30 = .ok (.aload_n 0, 1) := by decide +kernel
theorem dX6_barters_31 : decode cX6_barters 31 = .ok (.getfield 41, 3) := by decide +kernel
theorem dX6_barters_34 : decode cX6_barters 34 = .ok (.iload_n 2, 1) := by decide +kernel
theorem dX6_barters_35 : decode cX6_barters 35 = .ok (.iaload, 1) := by decide +kernel
theorem dX6_barters_36 : decode cX6_barters 36 = .ok (.aload_n 0, 1) := by decide +kernel
theorem dX6_barters_37 : decode cX6_barters 37 = .ok (.getfield 44, 3) := by decide +kernel
theorem dX6_barters_40 : decode cX6_barters 40 = .ok (.iload_n 2, 1) := by decide +kernel
theorem dX6_barters_41 : decode cX6_barters 41 = .ok (.iaload, 1) := by decide +kernel
theorem dX6_barters_42 : decode cX6_barters 42 = .ok (.invokevirtual 98, 3) := by decide +kernel
theorem dX6_barters_45 : decode cX6_barters 45 = .ok (.aload_n 0, 1) := by decide +kernel
theorem dX6_barters_46 : decode cX6_barters 46 = .ok (.iload_n 2, 1) := by decide +kernel
theorem dX6_barters_47 : decode cX6_barters 47 = .ok (.aload_n 0, 1) := by decide +kernel
theorem dX6_barters_48 : decode cX6_barters 48 = .ok (.getfield 41, 3) := by decide +kernel
theorem dX6_barters_51 : decode cX6_barters 51 = .ok (.iload_n 1, 1) := by decide +kernel
theorem dX6_barters_52 : decode cX6_barters 52 = .ok (.iaload, 1) := by decide +kernel
theorem dX6_barters_53 : decode cX6_barters 53 = .ok (.aload_n 0, 1) := by decide +kernel
theorem dX6_barters_54 : decode cX6_barters 54 = .ok (.getfield 44, 3) := by decide +kernel
theorem dX6_barters_57 : decode cX6_barters 57 = .ok (.iload_n 1, 1) := by decide +kernel
theorem dX6_barters_58 : decode cX6_barters 58 = .ok (.iaload, 1) := by decide +kernel
theorem dX6_barters_59 : decode cX6_barters 59 = .ok (.invokevirtual 98, 3) := by decide +kernel
theorem dX6_barters_62 : decode cX6_barters 62 = .ok (.bipush 10, 2) := by decide +kernel
theorem dX6_barters_64 : decode cX6_barters 64 = .ok (.ireturn, 1) := by decide +kernel
theorem dX6_passes_0 : decode cX6_passes 0 = .ok (.iconst 0, 1) := by decide +kernel
theorem dX6_passes_1 : decode cX6_passes 1 = .ok (.istore_n 1, 1) := by decide +kernel
theorem dX6_passes_2 : decode cX6_passes 2 = .ok (.aload_n 0, 1) := by decide +kernel
theorem dX6_passes_3 : decode cX6_passes 3 = .ok (.getfield 7, 3) := by decide +kernel
theorem dX6_passes_6 : decode cX6_passes 6 = .ok (.iconst 0, 1) := by decide +kernel
theorem dX6_passes_7 : decode cX6_passes 7 = .ok (.dup2, 1) := by decide +kernel
theorem dX6_passes_8 : decode cX6_passes 8 = .ok (.iaload, 1) := by decide +kernel
theorem dX6_passes_9 : decode cX6_passes 9 = .ok (.iconst 1, 1) := by decide +kernel
theorem dX6_passes_10 : decode cX6_passes 10 = .ok (.iadd, 1) := by decide +kernel
theorem dX6_passes_11 : decode cX6_passes 11 = .ok (.iastore, 1) := by decide +kernel
theorem dX6_passes_12 : decode cX6_passes 12 = .ok (.iconst 0, 1) := by decide +kernel
theorem dX6_passes_13 : decode cX6_passes 13 = .ok (.istore_n 2, 1) := by decide +kernel
theorem dX6_passes_14 : decode cX6_passes 14 = .ok (.iload_n 2, 1) := by decide +kernel
theorem dX6_passes_15 : decode cX6_passes 15 = .ok (.aload_n 0, 1) := by decide +kernel
theorem dX6_passes_16 : decode cX6_passes 16 = .ok (.getfield 7, 3) := by decide +kernel
theorem dX6_passes_19 : decode cX6_passes 19 = .ok (.iconst 1, 1) := by decide +kernel
theorem dX6_passes_20 : decode cX6_passes 20 = .ok (.iaload, 1) := by decide +kernel
theorem dX6_passes_21 : decode cX6_passes 21 = .ok (.if_icmp .ge 61, 3) := by decide +kernel
theorem dX6_passes_24 : decode cX6_passes 24 = .ok (.aload_n 0, 1) := by decide +kernel
theorem dX6_passes_25 : decode cX6_passes 25 = .ok (.getfield 7, 3) := by decide +kernel
theorem dX6_passes_28 : decode cX6_passes 28 = .ok (.iload_n 2, 1) := by decide +kernel
theorem dX6_passes_29 : decode cX6_passes 29 = .ok (.iconst 3, 1) := by decide +kernel
theorem dX6_passes_30 : decode cX6_passes 30 = .ok (.invokestatic 59, 3) := by decide +kernel
theorem dX6_passes_33 : decode cX6_passes 33 = .ok (.dup2, 1) := by decide +kernel
theorem dX6_passes_34 : decode cX6_passes 34 = .ok (.iaload, 1) := by decide +kernel
theorem dX6_passes_35 : decode cX6_passes 35 = .ok (.iconst 1, 1) := by decide +kernel
theorem dX6_passes_36 : decode cX6_passes 36 = .ok (.iadd, 1) := by decide +kernel
theorem dX6_passes_37 : decode cX6_passes 37 = .ok (.iastore, 1) := by decide +kernel
theorem dX6_passes_38 : decode cX6_passes 38 = .ok (.aload_n 0, 1) := by decide +kernel
theorem dX6_passes_39 : decode cX6_passes 39 = .ok (.iload_n 2, 1) := by decide +kernel
theorem dX6_passes_40 : decode cX6_passes 40 = .ok (.invokevirtual 68, 3) := by decide +kernel
theorem dX6_passes_43 : decode cX6_passes 43 = .ok (.ifCond .ne 33, 3) := by decide +kernel
theorem dX6_passes_46 : decode cX6_passes 46 = .ok (.aload_n 0, 1) := by decide +kernel
theorem dX6_passes_47 : decode cX6_passes 47 = .ok (.getfield 7, 3) := by decide +kernel
theorem dX6_passes_50 : decode cX6_passes 50 = .ok (.iload_n 2, 1) := by decide +kernel
theorem dX6_passes_51 : decode cX6_passes 51 = .ok (.iconst 2, 1) := by decide +kernel
theorem dX6_passes_52 : decode cX6_passes 52 = .ok (.invokestatic 59, 3) := by decide +kernel
theorem dX6_passes_55 : decode cX6_passes 55 = .ok (.aload_n 0, 1) := by decide +kernel
theorem dX6_passes_56 : decode cX6_passes 56 = .ok (.iload_n 2, 1) := by decide +kernel
theorem dX6_passes_57 : decode cX6_passes 57 = .ok (.iconst 0, 1) := by decide +kernel
theorem dX6_passes_58 : decode cX6_passes 58 = .ok (.invokevirtual 65, 3) := by decide +kernel
theorem dX6_passes_61 : decode cX6_passes 61 = .ok (.iastore, 1) := by decide +kernel
theorem dX6_passes_62 : decode cX6_passes 62 = .ok (.aload_n 0, 1) := by decide +kernel
theorem dX6_passes_63 : decode cX6_passes 63 = .ok (.getfield 7, 3) := by decide +kernel
theorem dX6_passes_66 : decode cX6_passes 66 = .ok (.iload_n 2, 1) := by decide +kernel
theorem dX6_passes_67 : decode cX6_passes 67 = .ok (.iconst 3, 1) := by decide +kernel
theorem dX6_passes_68 : decode cX6_passes 68 = .ok (.invokestatic 59, 3) := by decide +kernel
theorem dX6_passes_71 : decode cX6_passes 71 = .ok (.iconst 0, 1) := by decide +kernel
theorem dX6_passes_72 : decode cX6_passes 72 = .ok (.iastore, 1) := by decide +kernel
theorem dX6_passes_73 : decode cX6_passes 73 = .ok (.iinc 1 1, 3) := by decide +kernel
theorem dX6_passes_76 : decode cX6_passes 76 = .ok (.iinc 2 1, 3) := by decide +kernel
theorem dX6_passes_79 : decode cX6_passes 79 = .ok (.goto (-65), 3) := by decide +kernel
theorem dX6_passes_82 : decode cX6_passes 82 = .ok (.aload_n 0, 1) := by decide +kernel
theorem dX6_passes_83 : decode cX6_passes 83 = .ok (.getfield 7, 3) := by decide +kernel
theorem dX6_passes_86 : decode cX6_passes 86 = .ok (.iconst 3, 1) := by decide +kernel
theorem dX6_passes_87 : decode cX6_passes 87 = .ok (.dup2, 1) := by decide +kernel
theorem dX6_passes_88 : decode cX6_passes 88 = .ok (.iaload, 1) := by decide +kernel
theorem dX6_passes_89 : decode cX6_passes 89 = .ok (.iload_n 1, 1) := by decide +kernel
theorem dX6_passes_90 : decode cX6_passes 90 = .ok (.iadd, 1) := by decide +kernel
theorem dX6_passes_91 : decode cX6_passes 91 = .ok (.iastore, 1) := by decide +kernel
theorem dX6_passes_92 : decode cX6_passes 92 = .ok (.aload_n 0, 1) := by decide +kernel
theorem dX6_passes_93 : decode cX6_passes 93 = .ok (.getfield 7, 3) := by decide +kernel
theorem dX6_passes_96 : decode cX6_passes 96 = .ok (.iconst 4, 1) := by decide +kernel
theorem dX6_passes_97 : decode cX6_passes 97 = .ok (.dup2, 1) := by decide +kernel
theorem dX6_passes_98 : decode cX6_passes 98 = .ok (.iaload, 1) := by decide +kernel
theorem dX6_passes_99 : decode cX6_passes 99 = .ok (.iload_n 1, 1) := by decide +kernel
theorem dX6_passes_100 : decode cX6_passes 100 = .ok (.iadd, 1) := by decide +kernel
theorem dX6_passes_101 : decode cX6_passes 101 = .ok (.iastore, 1) := by decide +kernel
theorem dX6_passes_102 : decode cX6_passes 102 = .ok (.aload_n 0, 1) := by decide +kernel
theorem dX6_passes_103 : decode cX6_passes 103 = .ok (.getfield 7, 3) := by decide +kernel
theorem dX6_passes_106 : decode cX6_passes 106 = .ok (.bipush 8, 2) := by decide +kernel
theorem dX6_passes_108 : decode cX6_passes 108 = .ok (.sipush 421, 3) := by decide +kernel
theorem dX6_passes_111 : decode cX6_passes 111 = .ok (.aload_n 0, 1) := by decide +kernel
theorem dX6_passes_112 : decode cX6_passes 112 = .ok (.getfield 7, 3) := by decide +kernel
theorem dX6_passes_115 : decode cX6_passes 115 = .ok (.bipush 8, 2) := by decide +kernel
theorem dX6_passes_117 : decode cX6_passes 117 = .ok (.iaload, 1) := by decide +kernel
theorem dX6_passes_118 : decode cX6_passes 118 = .ok (.imul, 1) := by decide +kernel
theorem dX6_passes_119 : decode cX6_passes 119 = .ok (.sipush 1663, 3) := by decide +kernel
theorem dX6_passes_122 : decode cX6_passes 122 = .ok (.iadd, 1) := by decide +kernel
theorem dX6_passes_123 : decode cX6_passes 123 = .ok (.sipush 10000, 3) := by decide +kernel
theorem dX6_passes_126 : decode cX6_passes 126 = .ok (.irem, 1) := by decide +kernel
theorem dX6_passes_127 : decode cX6_passes 127 = .ok (.iastore, 1) := by decide +kernel
theorem dX6_passes_128 : decode cX6_passes 128 = .ok (.aload_n 0, 1) := by decide +kernel
theorem dX6_passes_129 : decode cX6_passes 129 = .ok (.getfield 7, 3) := by decide +kernel
theorem dX6_passes_132 : decode cX6_passes 132 = .ok (.bipush 8, 2) := by decide +kernel
theorem dX6_passes_134 : decode cX6_passes 134 = .ok (.iaload, 1) := by decide +kernel
theorem dX6_passes_135 : decode cX6_passes 135 = .ok (.aload_n 0, 1) := by decide +kernel
theorem dX6_passes_136 : decode cX6_passes 136 = .ok (.getfield 7, 3) := by decide +kernel
theorem dX6_passes_139 : decode cX6_passes 139 = .ok (.iconst 1, 1) := by decide +kernel
theorem dX6_passes_140 : decode cX6_passes 140 = .ok (.iaload, 1) := by decide +kernel
theorem dX6_passes_141 : decode cX6_passes 141 = .ok (.iconst 1, 1) := by decide +kernel
theorem dX6_passes_142 : decode cX6_passes 142 = .ok (.iadd, 1) := by decide +kernel
theorem dX6_passes_143 : decode cX6_passes 143 = .ok (.irem, 1) := by decide +kernel
theorem dX6_passes_144 : decode cX6_passes 144 = .ok (.istore_n 2, 1) := by decide +kernel
theorem dX6_passes_145 : decode cX6_passes 145 = .ok (.aload_n 0, 1) := by decide +kernel
theorem dX6_passes_146 : decode cX6_passes 146 = .ok (.getfield 7, 3) := by decide +kernel
theorem dX6_passes_149 : decode cX6_passes 149 = .ok (.bipush 9, 2) := by decide +kernel
theorem dX6_passes_151 : decode cX6_passes 151 = .ok (.iload_n 2, 1) := by decide +kernel
theorem dX6_passes_152 : decode cX6_passes 152 = .ok (.aload_n 0, 1) := by decide +kernel
theorem dX6_passes_153 : decode cX6_passes 153 = .ok (.getfield 7, 3) := by decide +kernel
theorem dX6_passes_156 : decode cX6_passes 156 = .ok (.iconst 1, 1) := by decide +kernel
theorem dX6_passes_157 : decode cX6_passes 157 = .ok (.iaload, 1) := by decide +kernel
theorem dX6_passes_158 : decode cX6_passes 158 = .ok (.if_icmp .ge 7, 3) := by decide +kernel
theorem dX6_passes_161 : decode cX6_passes 161 = .ok (.iload_n 2, 1) := by decide +kernel
theorem dX6_passes_162 : decode cX6_passes 162 = .ok (.goto 5, 3) := by decide +kernel
theorem dX6_passes_165 : decode cX6_passes 165 = .ok (.bipush (-4), 2) := by decide +kernel
theorem dX6_passes_167 : decode cX6_passes 167 = .ok (.iastore, 1) := by decide +kernel
theorem dX6_passes_168 : decode cX6_passes 168 = .ok (.iload_n 1, 1) := by decide +kernel
theorem dX6_passes_169 : decode cX6_passes 169 = .ok (.ireturn, 1) := by decide +kernel
theorem dX6_comes_0 : decode cX6_comes 0 = .ok (.aload_n 0, 1) := by decide +kernel
theorem dX6_comes_1 : decode cX6_comes 1 = .ok (.getfield 7, 3) := by decide +kernel
theorem dX6_comes_4 : decode cX6_comes 4 = .ok (.iconst 1, 1) := by decide +kernel
theorem dX6_comes_5 : decode cX6_comes 5 = .ok (.iaload, 1) := by decide +kernel
theorem dX6_comes_6 : decode cX6_comes 6 = .ok (.istore_n 3, 1) := by decide +kernel
theorem dX6_comes_7 : decode cX6_comes 7 = .ok (.aload_n 0, 1) := by decide +kernel
theorem dX6_comes_8 : decode cX6_comes 8 = .ok (.getfield 7, 3) := by decide +kernel
theorem dX6_comes_11 : decode cX6_comes 11 = .ok (.iconst 1, 1) := by decide +kernel
theorem dX6_comes_12 : decode cX6_comes 12 = .ok (.dup2, 1) := by decide +kernel
theorem dX6_comes_13 : decode cX6_comes 13 = .ok (.iaload, 1) := by decide +kernel
theorem dX6_comes_14 : decode cX6_comes 14 = .ok (.iconst 1, 1) := by decide +kernel
theorem dX6_comes_15 : decode cX6_comes 15 = .ok (.iadd, 1) := by decide +kernel
theorem dX6_comes_16 : decode cX6_comes 16 = .ok (.iastore, 1) := by decide +kernel
theorem dX6_comes_17 : decode cX6_comes 17 = .ok (.aload_n 0, 1) := by decide +kernel
theorem dX6_comes_18 : decode cX6_comes 18 = .ok (.getfield 7, 3) := by decide +kernel
theorem dX6_comes_21 : decode cX6_comes 21 = .ok (.iload_n 3, 1) := by decide +kernel
theorem dX6_comes_22 : decode cX6_comes 22 = .ok (.iconst 0, 1) := by decide +kernel
theorem dX6_comes_23 : decode cX6_comes 23 = .ok (.invokestatic 59, 3) := by decide +kernel
theorem dX6_comes_26 : decode cX6_comes 26 = .ok (.iload_n 1, 1) := by decide +kernel
theorem dX6_comes_27 : decode cX6_comes 27 = .ok (.iastore, 1) := by decide +kernel
theorem dX6_comes_28 : decode cX6_comes 28 = .ok (.aload_n 0, 1) := by decide +kernel
theorem dX6_comes_29 : decode cX6_comes 29 = .ok (.getfield 7, 3) := by decide +kernel
theorem dX6_comes_32 : decode cX6_comes 32 = .ok (.iload_n 3, 1) := by decide +kernel
theorem dX6_comes_33 : decode cX6_comes 33 = .ok (.iconst 1, 1) := by decide +kernel
theorem dX6_comes_34 : decode cX6_comes 34 = .ok (.invokestatic 59, 3) := by decide +kernel
theorem dX6_comes_37 : decode cX6_comes 37 = .ok (.iload_n 2, 1) := by decide +kernel
theorem dX6_comes_38 : decode cX6_comes 38 = .ok (.iastore, 1) := by decide +kernel
theorem dX6_comes_39 : decode cX6_comes 39 = .ok (.aload_n 0, 1) := by decide +kernel
theorem dX6_comes_40 : decode cX6_comes 40 = .ok (.getfield 7, 3) := by decide +kernel
theorem dX6_comes_43 : decode cX6_comes 43 = .ok (.iload_n 3, 1) := by decide +kernel
theorem dX6_comes_44 : decode cX6_comes 44 = .ok (.iconst 2, 1) := by decide +kernel
theorem dX6_comes_45 : decode cX6_comes 45 = .ok (.invokestatic 59, 3) := by decide +kernel
theorem dX6_comes_48 : decode cX6_comes 48 = .ok (.iload_n 1, 1) := by decide +kernel
theorem dX6_comes_49 : decode cX6_comes 49 = .ok (.iastore, 1) := by decide +kernel
theorem dX6_comes_50 : decode cX6_comes 50 = .ok (.aload_n 0, 1) := by decide +kernel
theorem dX6_comes_51 : decode cX6_comes 51 = .ok (.getfield 7, 3) := by decide +kernel
theorem dX6_comes_54 : decode cX6_comes 54 = .ok (.iload_n 3, 1) := by decide +kernel
theorem dX6_comes_55 : decode cX6_comes 55 = .ok (.iconst 3, 1) := by decide +kernel
theorem dX6_comes_56 : decode cX6_comes 56 = .ok (.invokestatic 59, 3) := by decide +kernel
theorem dX6_comes_59 : decode cX6_comes 59 = .ok (.iconst 0, 1) := by decide +kernel
theorem dX6_comes_60 : decode cX6_comes 60 = .ok (.iastore, 1) := by decide +kernel
theorem dX6_comes_61 : decode cX6_comes 61 = .ok (.aload_n 0, 1) := by decide +kernel
theorem dX6_comes_62 : decode cX6_comes 62 = .ok (.getfield 7, 3) := by decide +kernel
theorem dX6_comes_65 : decode cX6_comes 65 = .ok (.iload_n 3, 1) := by decide +kernel
theorem dX6_comes_66 : decode cX6_comes 66 = .ok (.iconst 4, 1) := by decide +kernel
theorem dX6_comes_67 : decode cX6_comes 67 = .ok (.invokestatic 59, 3) := by decide +kernel
theorem dX6_comes_70 : decode cX6_comes 70 = .ok (.iconst 0, 1) := by decide +kernel
theorem dX6_comes_71 : decode cX6_comes 71 = .ok (.iastore, 1) := by decide +kernel
theorem dX6_comes_72 : decode cX6_comes 72 = .ok (.aload_n 0, 1) := by decide +kernel
theorem dX6_comes_73 : decode cX6_comes 73 = .ok (.getfield 7, 3) := by decide +kernel
theorem dX6_comes_76 : decode cX6_comes 76 = .ok (.iconst 4, 1) := by decide +kernel
theorem dX6_comes_77 : decode cX6_comes 77 = .ok (.dup2, 1) := by decide +kernel
theorem dX6_comes_78 : decode cX6_comes 78 = .ok (.iaload, 1) := by decide +kernel
theorem dX6_comes_79 : decode cX6_comes 79 = .ok (.iconst 1, 1) := by decide +kernel
theorem dX6_comes_80 : decode cX6_comes 80 = .ok (.iadd, 1) := by decide +kernel
theorem dX6_comes_81 : decode cX6_comes 81 = .ok (.iastore, 1) := by decide +kernel
theorem dX6_comes_82 : decode cX6_comes 82 = .ok (.iload_n 3, 1) := by decide +kernel
theorem dX6_comes_83 : decode cX6_comes 83 = .ok (.ireturn, 1) := by decide +kernel
theorem dX6_come_0 : decode cX6_come 0 = .ok (.iload_n 1, 1) := by decide +kernel
theorem dX6_come_1 : decode cX6_come 1 = .ok (.invokestatic 105, 3) := by decide +kernel
theorem dX6_come_4 : decode cX6_come 4 = .ok (.ifCond .eq 13, 3) := by decide +kernel
theorem dX6_come_7 : decode cX6_come 7 = .ok (.iload_n 2, 1) := by decide +kernel
theorem dX6_come_8 : decode cX6_come 8 = .ok (.iconst 0, 1) := by decide +kernel
theorem dX6_come_9 : decode cX6_come 9 = .ok (.bipush 63, 2) := by decide +kernel
theorem dX6_come_11 : decode cX6_come 11 = .ok (.invokestatic 51, 3) := by decide +kernel
theorem dX6_come_14 : decode cX6_come 14 = .ok (.ifCond .ne 5, 3) := by decide +kernel
theorem dX6_come_17 : decode cX6_come 17 = .ok (.iconst (-1), 1) := by decide +kernel
theorem dX6_come_18 : decode cX6_come 18 = .ok (.ireturn, 1) := by decide +kernel
theorem dX6_come_19 : decode cX6_come 19 = .ok (.aload_n 0, 1) := by decide +kernel
theorem dX6_come_20 : decode cX6_come 20 = .ok (.getfield 7, 3) := by decide +kernel
theorem dX6_come_23 : decode cX6_come 23 = .ok (.iconst 1, 1) := by decide +kernel
theorem dX6_come_24 : decode cX6_come 24 = .ok (.iaload, 1) := by decide +kernel
theorem dX6_come_25 : decode cX6_come 25 = .ok (.bipush 7, 2) := by decide +kernel
theorem dX6_come_27 : decode cX6_come 27 = .ok (.if_icmp .ne 6, 3) := by decide +kernel
theorem dX6_come_30 : decode cX6_come 30 = .ok (.bipush (-3), 2) := by decide +kernel
theorem dX6_come_32 : decode cX6_come 32 = .ok (.ireturn, 1) := by decide +kernel
theorem dX6_come_33 : decode cX6_come 33 = .ok (.aload_n 0, 1) := by decide +kernel
theorem dX6_come_34 : decode cX6_come 34 = .ok (.invokevirtual 108, 3) := by decide +kernel
theorem dX6_come_37 : decode cX6_come 37 = .ok (.aload_n 0, 1) := by decide +kernel
theorem dX6_come_38 : decode cX6_come 38 = .ok (.iload_n 1, 1) := by decide +kernel
theorem dX6_come_39 : decode cX6_come 39 = .ok (.iload_n 2, 1) := by decide +kernel
theorem dX6_come_40 : decode cX6_come 40 = .ok (.invokevirtual 111, 3) := by decide +kernel
theorem dX6_come_43 : decode cX6_come 43 = .ok (.ireturn, 1) := by decide +kernel
theorem dX6_go_0 : decode cX6_go 0 = .ok (.aload_n 0, 1) := by decide +kernel
theorem dX6_go_1 : decode cX6_go 1 = .ok (.iload_n 1, 1) := by decide +kernel
theorem dX6_go_2 : decode cX6_go 2 = .ok (.invokevirtual 55, 3) := by decide +kernel
theorem dX6_go_5 : decode cX6_go 5 = .ok (.ifCond .ne 5, 3) := by decide +kernel
theorem dX6_go_8 : decode cX6_go 8 = .ok (.iconst (-1), 1) := by decide +kernel
theorem dX6_go_9 : decode cX6_go 9 = .ok (.ireturn, 1) := by decide +kernel
theorem dX6_go_10 : decode cX6_go 10 = .ok (.aload_n 0, 1) := by decide +kernel
theorem dX6_go_11 : decode cX6_go 11 = .ok (.invokevirtual 108, 3) := by decide +kernel
theorem dX6_go_14 : decode cX6_go 14 = .ok (.aload_n 0, 1) := by decide +kernel
theorem dX6_go_15 : decode cX6_go 15 = .ok (.iload_n 1, 1) := by decide +kernel
theorem dX6_go_16 : decode cX6_go 16 = .ok (.iconst 4, 1) := by decide +kernel
theorem dX6_go_17 : decode cX6_go 17 = .ok (.invokevirtual 65, 3) := by decide +kernel
theorem dX6_go_20 : decode cX6_go 20 = .ok (.istore_n 2, 1) := by decide +kernel
theorem dX6_go_21 : decode cX6_go 21 = .ok (.aload_n 0, 1) := by decide +kernel
theorem dX6_go_22 : decode cX6_go 22 = .ok (.getfield 7, 3) := by decide +kernel
theorem dX6_go_25 : decode cX6_go 25 = .ok (.iconst 1, 1) := by decide +kernel
theorem dX6_go_26 : decode cX6_go 26 = .ok (.dup2, 1) := by decide +kernel
theorem dX6_go_27 : decode cX6_go 27 = .ok (.iaload, 1) := by decide +kernel
theorem dX6_go_28 : decode cX6_go 28 = .ok (.iconst 1, 1) := by decide +kernel
theorem dX6_go_29 : decode cX6_go 29 = .ok (.isub, 1) := by decide +kernel
theorem dX6_go_30 : decode cX6_go 30 = .ok (.iastore, 1) := by decide +kernel
theorem dX6_go_31 : decode cX6_go 31 = .ok (.iload_n 1, 1) := by decide +kernel
theorem dX6_go_32 : decode cX6_go 32 = .ok (.iconst 0, 1) := by decide +kernel
theorem dX6_go_33 : decode cX6_go 33 = .ok (.invokestatic 59, 3) := by decide +kernel
theorem dX6_go_36 : decode cX6_go 36 = .ok (.istore_n 3, 1) := by decide +kernel
theorem dX6_go_37 : decode cX6_go 37 = .ok (.iload_n 3, 1) := by decide +kernel
theorem dX6_go_38 : decode cX6_go 38 = .ok (.aload_n 0, 1) := by decide +kernel
theorem dX6_go_39 : decode cX6_go 39 = .ok (.getfield 7, 3) := by decide +kernel
theorem dX6_go_42 : decode cX6_go 42 = .ok (.iconst 1, 1) := by decide +kernel
theorem dX6_go_43 : decode cX6_go 43 = .ok (.iaload, 1) := by decide +kernel
theorem dX6_go_44 : decode cX6_go 44 = .ok (.iconst 0, 1) := by decide +kernel
theorem dX6_go_45 : decode cX6_go 45 = .ok (.invokestatic 59, 3) := by decide +kernel
theorem dX6_go_48 : decode cX6_go 48 = .ok (.if_icmp .ge 23, 3) := by decide +kernel
theorem dX6_go_51 : decode cX6_go 51 = .ok (.aload_n 0, 1) := by decide +kernel
theorem dX6_go_52 : decode cX6_go 52 = .ok (.getfield 7, 3) := by decide +kernel
theorem dX6_go_55 : decode cX6_go 55 = .ok (.iload_n 3, 1) := by decide +kernel
theorem dX6_go_56 : decode cX6_go 56 = .ok (.aload_n 0, 1) := by decide +kernel
theorem dX6_go_57 : decode cX6_go 57 = .ok (.getfield 7, 3) := by decide +kernel
theorem dX6_go_60 : decode cX6_go 60 = .ok (.iload_n 3, 1) := by decide +kernel
theorem dX6_go_61 : decode cX6_go 61 = .ok (.iconst 5, 1) := by decide +kernel
theorem dX6_go_62 : decode cX6_go 62 = .ok (.iadd, 1) := by decide +kernel
theorem dX6_go_63 : decode cX6_go 63 = .ok (.iaload, 1) := by decide +kernel
theorem dX6_go_64 : decode cX6_go 64 = .ok (.iastore, 1) := by decide +kernel
theorem dX6_go_65 : decode cX6_go 65 = .ok (.iinc 3 1, 3) := by decide +kernel
theorem dX6_go_68 : decode cX6_go 68 = .ok (.goto (-31), 3) := by decide +kernel
theorem dX6_go_71 : decode cX6_go 71 = .ok (.iconst 0, 1) := by decide +kernel
theorem dX6_go_72 : decode cX6_go 72 = .ok (.istore_n 3, 1) := by decide +kernel
theorem dX6_go_73 : decode cX6_go 73 = .ok (.iload_n 3, 1) := by decide +kernel
theorem dX6_go_74 : decode cX6_go 74 = .ok (.iconst 5, 1) := by decide +kernel
theorem dX6_go_75 : decode cX6_go 75 = .ok (.if_icmp .ge 25, 3) := by decide +kernel
theorem dX6_go_78 : decode cX6_go 78 = .ok (.aload_n 0, 1) := by decide +kernel
theorem dX6_go_79 : decode cX6_go 79 = .ok (.getfield 7, 3) := by decide +kernel
