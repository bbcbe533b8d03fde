theorem dX6_go_82 : decode cX6_go 82 = .ok (.aload_n 0, 1) := by decide +kernel
theorem dX6_go_83 : decode cX6_go 83 = .ok (.getfield 7, 3) := by decide +kernel
theorem dX6_go_86 : decode cX6_go 86 = .ok (.iconst 1, 1) := by decide +kernel
theorem dX6_go_87 : decode cX6_go 87 = .ok (.iaload, 1) := by decide +kernel
theorem dX6_go_88 : decode cX6_go 88 = .ok (.iload_n 3, 1) := by decide +kernel
theorem dX6_go_89 : decode cX6_go 89 = .ok (.invokestatic 59, 3) := by decide +kernel
theorem dX6_go_92 : decode cX6_go 92 = .ok (.iconst 0, 1) := by decide +kernel
theorem dX6_go_93 : decode cX6_go 93 = .ok (.iastore, 1) := by decide +kernel
theorem dX6_go_94 : decode cX6_go 94 = .ok (.iinc 3 1, 3) := by decide +kernel
theorem dX6_go_97 : decode cX6_go 97 = .ok (.goto (-24), 3) := by decide +kernel
theorem dX6_go_100 : decode cX6_go 100 = .ok (.aload_n 0, 1) := by decide +kernel
theorem dX6_go_101 : decode cX6_go 101 = .ok (.getfield 7, 3) := by decide +kernel
theorem dX6_go_104 : decode cX6_go 104 = .ok (.bipush 9, 2) := by decide +kernel
theorem dX6_go_106 : decode cX6_go 106 = .ok (.aload_n 0, 1) := by decide +kernel
theorem dX6_go_107 : decode cX6_go 107 = .ok (.getfield 7, 3) := by decide +kernel
theorem dX6_go_110 : decode cX6_go 110 = .ok (.bipush 9, 2) := by decide +kernel
theorem dX6_go_112 : decode cX6_go 112 = .ok (.iaload, 1) := by decide +kernel
theorem dX6_go_113 : decode cX6_go 113 = .ok (.iload_n 1, 1) := by decide +kernel
theorem dX6_go_114 : decode cX6_go 114 = .ok (.if_icmp .ne 8, 3) := by decide +kernel
theorem dX6_go_117 : decode cX6_go 117 = .ok (.bipush (-4), 2) := by decide +kernel
theorem dX6_go_119 : decode cX6_go 119 = .ok (.goto 33, 3) := by decide +kernel
theorem dX6_go_122 : decode cX6_go 122 = .ok (.aload_n 0, 1) := by decide +kernel
theorem dX6_go_123 : decode cX6_go 123 = .ok (.getfield 7, 3) := by decide +kernel
theorem dX6_go_126 : decode cX6_go 126 = .ok (.bipush 9, 2) := by decide +kernel
theorem dX6_go_128 : decode cX6_go 128 = .ok (.iaload, 1) := by decide +kernel
theorem dX6_go_129 : decode cX6_go 129 = .ok (.iload_n 1, 1) := by decide +kernel
theorem dX6_go_130 : decode cX6_go 130 = .ok (.if_icmp .le 15, 3) := by decide +kernel
theorem dX6_go_133 : decode cX6_go 133 = .ok (.aload_n 0, 1) := by decide +kernel
theorem dX6_go_134 : decode cX6_go 134 = .ok (.getfield 7, 3) := by decide +kernel
theorem dX6_go_137 : decode cX6_go 137 = .ok (.bipush 9, 2) := by decide +kernel
theorem dX6_go_139 : decode cX6_go 139 = .ok (.iaload, 1) := by decide +kernel
theorem dX6_go_140 : decode cX6_go 140 = .ok (.iconst 1, 1) := by decide +kernel
theorem dX6_go_141 : decode cX6_go 141 = .ok (.isub, 1) := by decide +kernel
theorem dX6_go_142 : decode cX6_go 142 = .ok (.goto 10, 3) := by decide +kernel
theorem dX6_go_145 : decode cX6_go 145 = .ok (.aload_n 0, 1) := by decide +kernel
theorem dX6_go_146 : decode cX6_go 146 = .ok (.getfield 7, 3) := by decide +kernel
theorem dX6_go_149 : decode cX6_go 149 = .ok (.bipush 9, 2) := by decide +kernel
theorem dX6_go_151 : decode cX6_go 151 = .ok (.iaload, 1) := by decide +kernel
theorem dX6_go_152 : decode cX6_go 152 = .ok (.iastore, 1) := by decide +kernel
theorem dX6_go_153 : decode cX6_go 153 = .ok (.iload_n 2, 1) := by decide +kernel
theorem dX6_go_154 : decode cX6_go 154 = .ok (.ireturn, 1) := by decide +kernel
theorem dX6_lays_0 : decode cX6_lays 0 = .ok (.aload_n 0, 1) := by decide +kernel
theorem dX6_lays_1 : decode cX6_lays 1 = .ok (.invokevirtual 108, 3) := by decide +kernel
theorem dX6_lays_4 : decode cX6_lays 4 = .ok (.aload_n 0, 1) := by decide +kernel
theorem dX6_lays_5 : decode cX6_lays 5 = .ok (.getfield 7, 3) := by decide +kernel
theorem dX6_lays_8 : decode cX6_lays 8 = .ok (.iload_n 1, 1) := by decide +kernel
theorem dX6_lays_9 : decode cX6_lays 9 = .ok (.iaload, 1) := by decide +kernel
theorem dX6_lays_10 : decode cX6_lays 10 = .ok (.istore_n 3, 1) := by decide +kernel
theorem dX6_lays_11 : decode cX6_lays 11 = .ok (.aload_n 0, 1) := by decide +kernel
theorem dX6_lays_12 : decode cX6_lays 12 = .ok (.getfield 7, 3) := by decide +kernel
theorem dX6_lays_15 : decode cX6_lays 15 = .ok (.iload_n 1, 1) := by decide +kernel
theorem dX6_lays_16 : decode cX6_lays 16 = .ok (.iload_n 2, 1) := by decide +kernel
theorem dX6_lays_17 : decode cX6_lays 17 = .ok (.iastore, 1) := by decide +kernel
theorem dX6_lays_18 : decode cX6_lays 18 = .ok (.iload_n 3, 1) := by decide +kernel
theorem dX6_lays_19 : decode cX6_lays 19 = .ok (.ireturn, 1) := by decide +kernel
theorem dX6_want_0 : decode cX6_want 0 = .ok (.aload_n 0, 1) := by decide +kernel
theorem dX6_want_1 : decode cX6_want 1 = .ok (.iload_n 1, 1) := by decide +kernel
theorem dX6_want_2 : decode cX6_want 2 = .ok (.invokevirtual 55, 3) := by decide +kernel
theorem dX6_want_5 : decode cX6_want 5 = .ok (.ifCond .eq 26, 3) := by decide +kernel
theorem dX6_want_8 : decode cX6_want 8 = .ok (.iload_n 2, 1) := by decide +kernel
theorem dX6_want_9 : decode cX6_want 9 = .ok (.iconst 0, 1) := by decide +kernel
theorem dX6_want_10 : decode cX6_want 10 = .ok (.bipush 63, 2) := by decide +kernel
theorem dX6_want_12 : decode cX6_want 12 = .ok (.invokestatic 51, 3) := by decide +kernel
theorem dX6_want_15 : decode cX6_want 15 = .ok (.ifCond .eq 16, 3) := by decide +kernel
theorem dX6_want_18 : decode cX6_want 18 = .ok (.aload_n 0, 1) := by decide +kernel
theorem dX6_want_19 : decode cX6_want 19 = .ok (.iload_n 1, 1) := by decide +kernel
theorem dX6_want_20 : decode cX6_want 20 = .ok (.iconst 1, 1) := by decide +kernel
theorem dX6_want_21 : decode cX6_want 21 = .ok (.invokestatic 59, 3) := by decide +kernel
theorem dX6_want_24 : decode cX6_want 24 = .ok (.iload_n 2, 1) := by decide +kernel
theorem dX6_want_25 : decode cX6_want 25 = .ok (.invokevirtual 114, 3) := by decide +kernel
theorem dX6_want_28 : decode cX6_want 28 = .ok (.goto 4, 3) := by decide +kernel
theorem dX6_want_31 : decode cX6_want 31 = .ok (.iconst (-1), 1) := by decide +kernel
theorem dX6_want_32 : decode cX6_want 32 = .ok (.ireturn, 1) := by decide +kernel
theorem dX6_life_0 : decode cX6_life 0 = .ok (.iload_n 1, 1) := by decide +kernel
theorem dX6_life_1 : decode cX6_life 1 = .ok (.invokestatic 105, 3) := by decide +kernel
theorem dX6_life_4 : decode cX6_life 4 = .ok (.ifCond .eq 26, 3) := by decide +kernel
theorem dX6_life_7 : decode cX6_life 7 = .ok (.iload_n 2, 1) := by decide +kernel
theorem dX6_life_8 : decode cX6_life 8 = .ok (.iconst 1, 1) := by decide +kernel
theorem dX6_life_9 : decode cX6_life 9 = .ok (.bipush 9, 2) := by decide +kernel
theorem dX6_life_11 : decode cX6_life 11 = .ok (.invokestatic 51, 3) := by decide +kernel
theorem dX6_life_14 : decode cX6_life 14 = .ok (.ifCond .eq 16, 3) := by decide +kernel
theorem dX6_life_17 : decode cX6_life 17 = .ok (.aload_n 0, 1) := by decide +kernel
theorem dX6_life_18 : decode cX6_life 18 = .ok (.iload_n 1, 1) := by decide +kernel
theorem dX6_life_19 : decode cX6_life 19 = .ok (.iconst 0, 1) := by decide +kernel
theorem dX6_life_20 : decode cX6_life 20 = .ok (.invokestatic 47, 3) := by decide +kernel
theorem dX6_life_23 : decode cX6_life 23 = .ok (.iload_n 2, 1) := by decide +kernel
theorem dX6_life_24 : decode cX6_life 24 = .ok (.invokevirtual 114, 3) := by decide +kernel
theorem dX6_life_27 : decode cX6_life 27 = .ok (.goto 4, 3) := by decide +kernel
theorem dX6_life_30 : decode cX6_life 30 = .ok (.iconst (-1), 1) := by decide +kernel
theorem dX6_life_31 : decode cX6_life 31 = .ok (.ireturn, 1) := by decide +kernel
theorem dX6_circle_0 : decode cX6_circle 0 = .ok (.iload_n 1, 1) := by decide +kernel
theorem dX6_circle_1 : decode cX6_circle 1 = .ok (.iconst 2, 1) := by decide +kernel
theorem dX6_circle_2 : decode cX6_circle 2 = .ok (.bipush 7, 2) := by decide +kernel
theorem dX6_circle_4 : decode cX6_circle 4 = .ok (.invokestatic 51, 3) := by decide +kernel
theorem dX6_circle_7 : decode cX6_circle 7 = .ok (.ifCond .eq 13, 3) := by decide +kernel
theorem dX6_circle_10 : decode cX6_circle 10 = .ok (.aload_n 0, 1) := by decide +kernel
theorem dX6_circle_11 : decode cX6_circle 11 = .ok (.bipush 7, 2) := by decide +kernel
theorem dX6_circle_13 : decode cX6_circle 13 = .ok (.iload_n 1, 1) := by decide +kernel
theorem dX6_circle_14 : decode cX6_circle 14 = .ok (.invokevirtual 114, 3) := by decide +kernel
theorem dX6_circle_17 : decode cX6_circle 17 = .ok (.goto 4, 3) := by decide +kernel
theorem dX6_circle_20 : decode cX6_circle 20 = .ok (.iconst (-1), 1) := by decide +kernel
theorem dX6_circle_21 : decode cX6_circle 21 = .ok (.ireturn, 1) := by decide +kernel
theorem dX6_lot_0 : decode cX6_lot 0 = .ok (.iload_n 1, 1) := by decide +kernel
theorem dX6_lot_1 : decode cX6_lot 1 = .ok (.iconst 0, 1) := by decide +kernel
theorem dX6_lot_2 : decode cX6_lot 2 = .ok (.sipush 9999, 3) := by decide +kernel
theorem dX6_lot_5 : decode cX6_lot 5 = .ok (.invokestatic 51, 3) := by decide +kernel
theorem dX6_lot_8 : decode cX6_lot 8 = .ok (.ifCond .eq 13, 3) := by decide +kernel
theorem dX6_lot_11 : decode cX6_lot 11 = .ok (.aload_n 0, 1) := by decide +kernel
theorem dX6_lot_12 : decode cX6_lot 12 = .ok (.bipush 8, 2) := by decide +kernel
theorem dX6_lot_14 : decode cX6_lot 14 = .ok (.iload_n 1, 1) := by decide +kernel
theorem dX6_lot_15 : decode cX6_lot 15 = .ok (.invokevirtual 114, 3) := by decide +kernel
theorem dX6_lot_18 : decode cX6_lot 18 = .ok (.goto 4, 3) := by decide +kernel
theorem dX6_lot_21 : decode cX6_lot 21 = .ok (.iconst (-1), 1) := by decide +kernel
theorem dX6_lot_22 : decode cX6_lot 22 = .ok (.ireturn, 1) := by decide +kernel
theorem dX6_barter_0 : decode cX6_barter 0 = .ok (.aload_n 0, 1) := by decide +kernel
theorem dX6_barter_1 : decode cX6_barter 1 = .ok (.iload_n 1, 1) := by decide +kernel
theorem dX6_barter_2 : decode cX6_barter 2 = .ok (.iload_n 2, 1) := by decide +kernel
theorem dX6_barter_3 : decode cX6_barter 3 = .ok (.invokevirtual 117, 3) := by decide +kernel
theorem dX6_barter_6 : decode cX6_barter 6 = .ok (.ifCond .ne 5, 3) := by decide +kernel
theorem dX6_barter_9 : decode cX6_barter 9 = .ok (.iconst (-1), 1) := by decide +kernel
theorem dX6_barter_10 : decode cX6_barter 10 = .ok (.ireturn, 1) := by decide +kernel
theorem dX6_barter_11 : decode cX6_barter 11 = .ok (.aload_n 0, 1) := by decide +kernel
theorem dX6_barter_12 : decode cX6_barter 12 = .ok (.invokevirtual 108, 3) := by decide +kernel
theorem dX6_barter_15 : decode cX6_barter 15 = .ok (.aload_n 0, 1) := by decide +kernel
theorem dX6_barter_16 : decode cX6_barter 16 = .ok (.iload_n 1, 1) := by decide +kernel
theorem dX6_barter_17 : decode cX6_barter 17 = .ok (.iload_n 2, 1) := by decide +kernel
theorem dX6_barter_18 : decode cX6_barter 18 = .ok (.invokevirtual 120, 3) := by decide +kernel
theorem dX6_barter_21 : decode cX6_barter 21 = .ok (.ireturn, 1) := by decide +kernel
theorem dX6_call_0 : decode cX6_call 0 = .ok (.aload_n 0, 1) := by decide +kernel
theorem dX6_call_1 : decode cX6_call 1 = .ok (.invokevirtual 108, 3) := by decide +kernel
theorem dX6_call_4 : decode cX6_call 4 = .ok (.aload_n 0, 1) := by decide +kernel
theorem dX6_call_5 : decode cX6_call 5 = .ok (.invokevirtual 123, 3) := by decide +kernel
theorem dX6_call_8 : decode cX6_call 8 = .ok (.ireturn, 1) := by decide +kernel
theorem dX6_day_0 : decode cX6_day 0 = .ok (.aload_n 0, 1) := by decide +kernel
theorem dX6_day_1 : decode cX6_day 1 = .ok (.invokevirtual 108, 3) := by decide +kernel
theorem dX6_day_4 : decode cX6_day 4 = .ok (.aload_n 0, 1) := by decide +kernel
theorem dX6_day_5 : decode cX6_day 5 = .ok (.invokevirtual 127, 3) := by decide +kernel
theorem dX6_day_8 : decode cX6_day 8 = .ok (.ireturn, 1) := by decide +kernel
theorem dX6_append_0 : decode cX6_append 0 = .ok (.iload_n 1, 1) := by decide +kernel
theorem dX6_append_1 : decode cX6_append 1 = .ok (.bipush 33, 2) := by decide +kernel
theorem dX6_append_3 : decode cX6_append 3 = .ok (.bipush 126, 2) := by decide +kernel
theorem dX6_append_5 : decode cX6_append 5 = .ok (.invokestatic 51, 3) := by decide +kernel
theorem dX6_append_8 : decode cX6_append 8 = .ok (.ifCond .ne 5, 3) := by decide +kernel
theorem dX6_append_11 : decode cX6_append 11 = .ok (.iconst (-1), 1) := by decide +kernel
theorem dX6_append_12 : decode cX6_append 12 = .ok (.ireturn, 1) := by decide +kernel
theorem dX6_append_13 : decode cX6_append 13 = .ok (.aload_n 0, 1) := by decide +kernel
theorem dX6_append_14 : decode cX6_append 14 = .ok (.getfield 130, 3) := by decide +kernel
theorem dX6_append_17 : decode cX6_append 17 = .ok (.bipush 60, 2) := by decide +kernel
theorem dX6_append_19 : decode cX6_append 19 = .ok (.if_icmp .ne 6, 3) := by decide +kernel
theorem dX6_append_22 : decode cX6_append 22 = .ok (.bipush (-3), 2) := by decide +kernel
theorem dX6_append_24 : decode cX6_append 24 = .ok (.ireturn, 1) := by decide +kernel
theorem dX6_append_25 : decode cX6_append 25 = .ok (.aload_n 0, 1) := by decide +kernel
theorem dX6_append_26 : decode cX6_append 26 = .ok (.getfield 22, 3) := by decide +kernel
theorem dX6_append_29 : decode cX6_append 29 = .ok (.aload_n 0, 1) := by decide +kernel
theorem dX6_append_30 : decode cX6_append 30 = .ok (.getfield 130, 3) := by decide +kernel
theorem dX6_append_33 : decode cX6_append 33 = .ok (.iload_n 1, 1) := by decide +kernel
theorem dX6_append_34 : decode cX6_append 34 = .ok (.iastore, 1) := by decide +kernel
theorem dX6_append_35 : decode cX6_append 35 = .ok (.aload_n 0, 1) := by decide +kernel
theorem dX6_append_36 : decode cX6_append 36 = .ok (.dup, 1) := by decide +kernel
theorem dX6_append_37 : decode cX6_append 37 = .ok (.getfield 130, 3) := by decide +kernel
theorem dX6_append_40 : decode cX6_append 40 = .ok (.iconst 1, 1) := by decide +kernel
theorem dX6_append_41 : decode cX6_append 41 = .ok (.iadd, 1) := by decide +kernel
theorem dX6_append_42 : decode cX6_append 42 = .ok (.putfield 130, 3) := by decide +kernel
theorem dX6_append_45 : decode cX6_append 45 = .ok (.aload_n 0, 1) := by decide +kernel
theorem dX6_append_46 : decode cX6_append 46 = .ok (.getfield 130, 3) := by decide +kernel
theorem dX6_append_49 : decode cX6_append 49 = .ok (.ireturn, 1) := by decide +kernel
theorem dX6_clear_0 : decode cX6_clear 0 = .ok (.aload_n 0, 1) := by decide +kernel
theorem dX6_clear_1 : decode cX6_clear 1 = .ok (.getfield 130, 3) := by decide +kernel
theorem dX6_clear_4 : decode cX6_clear 4 = .ok (.istore_n 1, 1) := by decide +kernel
theorem dX6_clear_5 : decode cX6_clear 5 = .ok (.aload_n 0, 1) := by decide +kernel
theorem dX6_clear_6 : decode cX6_clear 6 = .ok (.iconst 0, 1) := by decide +kernel
theorem dX6_clear_7 : decode cX6_clear 7 = .ok (.putfield 130, 3) := by decide +kernel
theorem dX6_clear_10 : decode cX6_clear 10 = .ok (.iload_n 1, 1) := by decide +kernel
theorem dX6_clear_11 : decode cX6_clear 11 = .ok (.ireturn, 1) := by decide +kernel
theorem dX6_next_0 : decode cX6_next 0 = .ok (.iload_n 1, 1) := by decide +kernel
theorem dX6_next_1 : decode cX6_next 1 = .ok (.aload_n 0, 1) := by decide +kernel
theorem dX6_next_2 : decode cX6_next 2 = .ok (.getfield 130, 3) := by decide +kernel
theorem dX6_next_5 : decode cX6_next 5 = .ok (.if_icmp .ge 12, 3) := by decide +kernel
theorem dX6_next_8 : decode cX6_next 8 = .ok (.aload_n 0, 1) := by decide +kernel
theorem dX6_next_9 : decode cX6_next 9 = .ok (.getfield 22, 3) := by decide +kernel
theorem dX6_next_12 : decode cX6_next 12 = .ok (.iload_n 1, 1) := by decide +kernel
theorem dX6_next_13 : decode cX6_next 13 = .ok (.iaload, 1) := by decide +kernel
theorem dX6_next_14 : decode cX6_next 14 = .ok (.goto 4, 3) := by decide +kernel
theorem dX6_next_17 : decode cX6_next 17 = .ok (.iconst 0, 1) := by decide +kernel
theorem dX6_next_18 : decode cX6_next 18 = .ok (.ireturn, 1) := by decide +kernel
theorem dX6_behindTrader_0 : decode cX6_behindTrader 0 = .ok (.aload_n 0, 1) := by decide +kernel
theorem dX6_behindTrader_1 : decode cX6_behindTrader 1 = .ok (.iload_n 1, 1) := by decide +kernel
theorem dX6_behindTrader_2 : decode cX6_behindTrader 2 = .ok (.invokevirtual 133, 3) := by decide +kernel
theorem dX6_behindTrader_5 : decode cX6_behindTrader 5 = .ok (.bipush 48, 2) := by decide +kernel
theorem dX6_behindTrader_7 : decode cX6_behindTrader 7 = .ok (.bipush 53, 2) := by decide +kernel
theorem dX6_behindTrader_9 : decode cX6_behindTrader 9 = .ok (.invokestatic 51, 3) := by decide +kernel
theorem dX6_behindTrader_12 : decode cX6_behindTrader 12 = .ok (.ifCond .ne 7, 3) := by decide +kernel
theorem dX6_behindTrader_15 : decode cX6_behindTrader 15 = .ok (.iconst (-1), 1) := by decide +kernel
theorem dX6_behindTrader_16 : decode cX6_behindTrader 16 = .ok (.iload_n 1, 1) := by decide +kernel
theorem dX6_behindTrader_17 : decode cX6_behindTrader 17 = .ok (.isub, 1) := by decide +kernel
theorem dX6_behindTrader_18 : decode cX6_behindTrader 18 = .ok (.ireturn, 1) := by decide +kernel
theorem dX6_behindTrader_19 : decode cX6_behindTrader 19 = .ok (.aload_n 0, 1) := by decide +kernel
theorem dX6_behindTrader_20 : decode cX6_behindTrader 20 = .ok (.iload_n 1, 1) := by decide +kernel
theorem dX6_behindTrader_21 : decode cX6_behindTrader 21 = .ok (.iconst 1, 1) := by decide +kernel
theorem dX6_behindTrader_22 : decode cX6_behindTrader 22 = .ok (.iadd, 1) := by decide +kernel
theorem dX6_behindTrader_23 : decode cX6_behindTrader 23 = .ok (.invokevirtual 133, 3) := by decide +kernel
theorem dX6_behindTrader_26 : decode cX6_behindTrader 26 = .ok (.bipush 62, 2) := by decide +kernel
theorem dX6_behindTrader_28 : decode cX6_behindTrader 28 = .ok (.if_icmp .eq 8, 3) := by decide +kernel
theorem dX6_behindTrader_31 : decode cX6_behindTrader 31 = .ok (.bipush (-2), 2) := by decide +kernel
theorem dX6_behindTrader_33 : decode cX6_behindTrader 33 = .ok (.iload_n 1, 1) := by decide +kernel
theorem dX6_behindTrader_34 : decode cX6_behindTrader 34 = .ok (.isub, 1) := by decide +kernel
theorem dX6_behindTrader_35 : decode cX6_behindTrader 35 = .ok (.ireturn, 1) := by decide +kernel
theorem dX6_behindTrader_36 : decode cX6_behindTrader 36 = .ok (.iload_n 1, 1) := by decide +kernel
theorem dX6_behindTrader_37 : decode cX6_behindTrader 37 = .ok (.iconst 2, 1) := by decide +kernel
theorem dX6_behindTrader_38 : decode cX6_behindTrader 38 = .ok (.iadd, 1) := by decide +kernel
theorem dX6_behindTrader_39 : decode cX6_behindTrader 39 = .ok (.istore_n 2, 1) := by decide +kernel
theorem dX6_behindTrader_40 : decode cX6_behindTrader 40 = .ok (.bipush 48, 2) := by decide +kernel
theorem dX6_behindTrader_42 : decode cX6_behindTrader 42 = .ok (.istore_n 3, 1) := by decide +kernel
theorem dX6_behindTrader_43 : decode cX6_behindTrader 43 = .ok (.aload_n 0, 1) := by decide +kernel
theorem dX6_behindTrader_44 : decode cX6_behindTrader 44 = .ok (.iload_n 2, 1) := by decide +kernel
theorem dX6_behindTrader_45 : decode cX6_behindTrader 45 = .ok (.invokevirtual 133, 3) := by decide +kernel
theorem dX6_behindTrader_48 : decode cX6_behindTrader 48 = .ok (.iload_n 3, 1) := by decide +kernel
theorem dX6_behindTrader_49 : decode cX6_behindTrader 49 = .ok (.bipush 53, 2) := by decide +kernel
theorem dX6_behindTrader_51 : decode cX6_behindTrader 51 = .ok (.invokestatic 51, 3) := by decide +kernel
theorem dX6_behindTrader_54 : decode cX6_behindTrader 54 = .ok (.ifCond .eq 17, 3) := by decide +kernel
theorem dX6_behindTrader_57 : decode cX6_behindTrader 57 = .ok (.aload_n 0, 1) := by decide +kernel
theorem dX6_behindTrader_58 : decode cX6_behindTrader 58 = .ok (.iload_n 2, 1) := by decide +kernel
theorem dX6_behindTrader_59 : decode cX6_behindTrader 59 = .ok (.invokevirtual 133, 3) := by decide +kernel
theorem dX6_behindTrader_62 : decode cX6_behindTrader 62 = .ok (.iconst 1, 1) := by decide +kernel
theorem dX6_behindTrader_63 : decode cX6_behindTrader 63 = .ok (.iadd, 1) := by decide +kernel
theorem dX6_behindTrader_64 : decode cX6_behindTrader 64 = .ok (.istore_n 3, 1) := by decide +kernel
theorem dX6_behindTrader_65 : decode cX6_behindTrader 65 = .ok (.iinc 2 1, 3) := by decide +kernel
theorem dX6_behindTrader_68 : decode cX6_behindTrader 68 = .ok (.goto (-25), 3) := by decide +kernel
theorem dX6_behindTrader_71 : decode cX6_behindTrader 71 = .ok (.iload_n 2, 1) := by decide +kernel
theorem dX6_behindTrader_72 : decode cX6_behindTrader 72 = .ok (.iload_n 1, 1) := by decide +kernel
theorem dX6_behindTrader_73 : decode cX6_behindTrader 73 = .ok (.iconst 2, 1) := by decide +kernel
theorem dX6_behindTrader_74 : decode cX6_behindTrader 74 = .ok (.iadd, 1) := by decide +kernel
theorem dX6_behindTrader_75 : decode cX6_behindTrader 75 = .ok (.if_icmp .ne 9, 3) := by decide +kernel
theorem dX6_behindTrader_78 : decode cX6_behindTrader 78 = .ok (.iconst (-1), 1) := by decide +kernel
theorem dX6_behindTrader_79 : decode cX6_behindTrader 79 = .ok (.iload_n 2, 1) := by decide +kernel
theorem dX6_behindTrader_80 : decode cX6_behindTrader 80 = .ok (.isub, 1) := by decide +kernel
theorem dX6_behindTrader_81 : decode cX6_behindTrader 81 = .ok (.goto 4, 3) := by decide +kernel
theorem dX6_behindTrader_84 : decode cX6_behindTrader 84 = .ok (.iload_n 2, 1) := by decide +kernel
theorem dX6_behindTrader_85 : decode cX6_behindTrader 85 = .ok (.ireturn, 1) := by decide +kernel
theorem dX6_faultOfTraders_0 : decode cX6_faultOfTraders 0 = .ok (.iconst 0, 1) := by decide +kernel
theorem dX6_faultOfTraders_1 : decode cX6_faultOfTraders 1 = .ok (.istore_n 1, 1) := by decide +kernel
theorem dX6_faultOfTraders_2 : decode cX6_faultOfTraders 2 = .ok (.aload_n 0, 1) := by decide +kernel
theorem dX6_faultOfTraders_3 : decode cX6_faultOfTraders 3 = .ok (.iconst 0, 1) := by decide +kernel
theorem dX6_faultOfTraders_4 : decode cX6_faultOfTraders 4 = .ok (.putfield 136, 3) := by decide +kernel
theorem dX6_faultOfTraders_7 : decode cX6_faultOfTraders 7 = .ok (.iconst 1, 1) := by decide +kernel
theorem dX6_faultOfTraders_8 : decode cX6_faultOfTraders 8 = .ok (.istore_n 2, 1) := by decide +kernel
theorem dX6_faultOfTraders_9 : decode cX6_faultOfTraders 9 = .ok (.iload_n 2, 1) := by decide +kernel
theorem dX6_faultOfTraders_10 : decode cX6_faultOfTraders 10 = .ok (.ifCond .eq 73, 3) := by decide +kernel
theorem dX6_faultOfTraders_13 : decode cX6_faultOfTraders 13 = .ok (.aload_n 0, 1) := by decide +kernel
theorem dX6_faultOfTraders_14 : decode cX6_faultOfTraders 14 = .ok (.iload_n 1, 1) := by decide +kernel
theorem dX6_faultOfTraders_15 : decode cX6_faultOfTraders 15 = .ok (.invokevirtual 139, 3) := by decide +kernel
theorem dX6_faultOfTraders_18 : decode cX6_faultOfTraders 18 = .ok (.istore_n 1, 1) := by decide +kernel
theorem dX6_faultOfTraders_19 : decode cX6_faultOfTraders 19 = .ok (.iload_n 1, 1) := by decide +kernel
theorem dX6_faultOfTraders_20 : decode cX6_faultOfTraders 20 = .ok (.ifCond .ge 7, 3) := by decide +kernel
theorem dX6_faultOfTraders_23 : decode cX6_faultOfTraders 23 = .ok (.iconst (-1), 1) := by decide +kernel
theorem dX6_faultOfTraders_24 : decode cX6_faultOfTraders 24 = .ok (.iload_n 1, 1) := by decide +kernel
theorem dX6_faultOfTraders_25 : decode cX6_faultOfTraders 25 = .ok (.isub, 1) := by decide +kernel
theorem dX6_faultOfTraders_26 : decode cX6_faultOfTraders 26 = .ok (.ireturn, 1) := by decide +kernel
theorem dX6_faultOfTraders_27 : decode cX6_faultOfTraders 27 = .ok (.aload_n 0, 1) := by decide +kernel
theorem dX6_faultOfTraders_28 : decode cX6_faultOfTraders 28 = .ok (.dup, 1) := by decide +kernel
theorem dX6_faultOfTraders_29 : decode cX6_faultOfTraders 29 = .ok (.getfield 136, 3) := by decide +kernel
theorem dX6_faultOfTraders_32 : decode cX6_faultOfTraders 32 = .ok (.iconst 1, 1) := by decide +kernel
theorem dX6_faultOfTraders_33 : decode cX6_faultOfTraders 33 = .ok (.iadd, 1) := by decide +kernel
theorem dX6_faultOfTraders_34 : decode cX6_faultOfTraders 34 = .ok (.putfield 136, 3) := by decide +kernel
theorem dX6_faultOfTraders_37 : decode cX6_faultOfTraders 37 = .ok (.iload_n 1, 1) := by decide +kernel
theorem dX6_faultOfTraders_38 : decode cX6_faultOfTraders 38 = .ok (.aload_n 0, 1) := by decide +kernel
theorem dX6_faultOfTraders_39 : decode cX6_faultOfTraders 39 = .ok (.getfield 130, 3) := by decide +kernel
theorem dX6_faultOfTraders_42 : decode cX6_faultOfTraders 42 = .ok (.if_icmp .ge 7, 3) := by decide +kernel
theorem dX6_faultOfTraders_45 : decode cX6_faultOfTraders 45 = .ok (.iconst 1, 1) := by decide +kernel
theorem dX6_faultOfTraders_46 : decode cX6_faultOfTraders 46 = .ok (.goto 4, 3) := by decide +kernel
theorem dX6_faultOfTraders_49 : decode cX6_faultOfTraders 49 = .ok (.iconst 0, 1) := by decide +kernel
theorem dX6_faultOfTraders_50 : decode cX6_faultOfTraders 50 = .ok (.istore_n 2, 1) := by decide +kernel
theorem dX6_faultOfTraders_51 : decode cX6_faultOfTraders 51 = .ok (.iload_n 2, 1) := by decide +kernel
theorem dX6_faultOfTraders_52 : decode cX6_faultOfTraders 52 = .ok (.ifCond .eq 16, 3) := by decide +kernel
theorem dX6_faultOfTraders_55 : decode cX6_faultOfTraders 55 = .ok (.aload_n 0, 1) := by decide +kernel
theorem dX6_faultOfTraders_56 : decode cX6_faultOfTraders 56 = .ok (.getfield 22, 3) := by decide +kernel
theorem dX6_faultOfTraders_59 : decode cX6_faultOfTraders 59 = .ok (.iload_n 1, 1) := by decide +kernel
theorem dX6_faultOfTraders_60 : decode cX6_faultOfTraders 60 = .ok (.iaload, 1) := by decide +kernel
theorem dX6_faultOfTraders_61 : decode cX6_faultOfTraders 61 = .ok (.bipush 44, 2) := by decide +kernel
theorem dX6_faultOfTraders_63 : decode cX6_faultOfTraders 63 = .ok (.if_icmp .eq 5, 3) := by decide +kernel
theorem dX6_faultOfTraders_66 : decode cX6_faultOfTraders 66 = .ok (.iload_n 1, 1) := by decide +kernel
theorem dX6_faultOfTraders_67 : decode cX6_faultOfTraders 67 = .ok (.ireturn, 1) := by decide +kernel
theorem dX6_faultOfTraders_68 : decode cX6_faultOfTraders 68 = .ok (.iload_n 1, 1) := by decide +kernel
theorem dX6_faultOfTraders_69 : decode cX6_faultOfTraders 69 = .ok (.iload_n 2, 1) := by decide +kernel
theorem dX6_faultOfTraders_70 : decode cX6_faultOfTraders 70 = .ok (.ifCond .eq 7, 3) := by decide +kernel
theorem dX6_faultOfTraders_73 : decode cX6_faultOfTraders 73 = .ok (.iconst 1, 1) := by decide +kernel
theorem dX6_faultOfTraders_74 : decode cX6_faultOfTraders 74 = .ok (.goto 4, 3) := by decide +kernel
theorem dX6_faultOfTraders_77 : decode cX6_faultOfTraders 77 = .ok (.iconst 0, 1) := by decide +kernel
theorem dX6_faultOfTraders_78 : decode cX6_faultOfTraders 78 = .ok (.iadd, 1) := by decide +kernel
theorem dX6_faultOfTraders_79 : decode cX6_faultOfTraders 79 = .ok (.istore_n 1, 1) := by decide +kernel
theorem dX6_faultOfTraders_80 : decode cX6_faultOfTraders 80 = .ok (.goto (-71), 3) := by decide +kernel
theorem dX6_faultOfTraders_83 : decode cX6_faultOfTraders 83 = .ok (.bipush (-4), 2) := by decide +kernel
theorem dX6_faultOfTraders_85 : decode cX6_faultOfTraders 85 = .ok (.ireturn, 1) := by decide +kernel
theorem dX6_faultOfDays_0 : decode cX6_faultOfDays 0 = .ok (.iconst 0, 1) := by decide +kernel
theorem dX6_faultOfDays_1 : decode cX6_faultOfDays 1 = .ok (.istore_n 1, 1) := by decide +kernel
theorem dX6_faultOfDays_2 : decode cX6_faultOfDays 2 = .ok (.iload_n 1, 1) := by decide +kernel
theorem dX6_faultOfDays_3 : decode cX6_faultOfDays 3 = .ok (.aload_n 0, 1) := by decide +kernel
theorem dX6_faultOfDays_4 : decode cX6_faultOfDays 4 = .ok (.getfield 130, 3) := by decide +kernel
theorem dX6_faultOfDays_7 : decode cX6_faultOfDays 7 = .ok (.if_icmp .ge 104, 3) := by decide +kernel
theorem dX6_faultOfDays_10 : decode cX6_faultOfDays 10 = .ok (.aload_n 0, 1) := by decide +kernel
theorem dX6_faultOfDays_11 : decode cX6_faultOfDays 11 = .ok (.getfield 22, 3) := by decide +kernel
theorem dX6_faultOfDays_14 : decode cX6_faultOfDays 14 = .ok (.iload_n 1, 1) := by decide +kernel
theorem dX6_faultOfDays_15 : decode cX6_faultOfDays 15 = .ok (.iaload, 1) := by decide +kernel
theorem dX6_faultOfDays_16 : decode cX6_faultOfDays 16 = .ok (.istore_n 2, 1) := by decide +kernel
theorem dX6_faultOfDays_17 : decode cX6_faultOfDays 17 = .ok (.iload_n 2, 1) := by decide +kernel
theorem dX6_faultOfDays_18 : decode cX6_faultOfDays 18 = .ok (.bipush 120, 2) := by decide +kernel
theorem dX6_faultOfDays_20 : decode cX6_faultOfDays 20 = .ok (.if_icmp .ne 68, 3) := by decide +kernel
theorem dX6_faultOfDays_23 : decode cX6_faultOfDays 23 = .ok (.aload_n 0, 1) := by decide +kernel
theorem dX6_faultOfDays_24 : decode cX6_faultOfDays 24 = .ok (.iload_n 1, 1) := by decide +kernel
theorem dX6_faultOfDays_25 : decode cX6_faultOfDays 25 = .ok (.iconst 1, 1) := by decide +kernel
theorem dX6_faultOfDays_26 : decode cX6_faultOfDays 26 = .ok (.iadd, 1) := by decide +kernel
theorem dX6_faultOfDays_27 : decode cX6_faultOfDays 27 = .ok (.invokevirtual 133, 3) := by decide +kernel
theorem dX6_faultOfDays_30 : decode cX6_faultOfDays 30 = .ok (.bipush 48, 2) := by decide +kernel
theorem dX6_faultOfDays_32 : decode cX6_faultOfDays 32 = .ok (.bipush 54, 2) := by decide +kernel
theorem dX6_faultOfDays_34 : decode cX6_faultOfDays 34 = .ok (.invokestatic 51, 3) := by decide +kernel
theorem dX6_faultOfDays_37 : decode cX6_faultOfDays 37 = .ok (.ifCond .ne 7, 3) := by decide +kernel
theorem dX6_faultOfDays_40 : decode cX6_faultOfDays 40 = .ok (.iload_n 1, 1) := by decide +kernel
theorem dX6_faultOfDays_41 : decode cX6_faultOfDays 41 = .ok (.iconst 1, 1) := by decide +kernel
theorem dX6_faultOfDays_42 : decode cX6_faultOfDays 42 = .ok (.iadd, 1) := by decide +kernel
theorem dX6_faultOfDays_43 : decode cX6_faultOfDays 43 = .ok (.ireturn, 1) := by decide +kernel
theorem dX6_faultOfDays_44 : decode cX6_faultOfDays 44 = .ok (.aload_n 0, 1) := by decide +kernel
theorem dX6_faultOfDays_45 : decode cX6_faultOfDays 45 = .ok (.iload_n 1, 1) := by decide +kernel
theorem dX6_faultOfDays_46 : decode cX6_faultOfDays 46 = .ok (.iconst 2, 1) := by decide +kernel
theorem dX6_faultOfDays_47 : decode cX6_faultOfDays 47 = .ok (.iadd, 1) := by decide +kernel
theorem dX6_faultOfDays_48 : decode cX6_faultOfDays 48 = .ok (.invokevirtual 133, 3) := by decide +kernel
theorem dX6_faultOfDays_51 : decode cX6_faultOfDays 51 = .ok (.bipush 48, 2) := by decide +kernel
theorem dX6_faultOfDays_53 : decode cX6_faultOfDays 53 = .ok (.bipush 54, 2) := by decide +kernel
theorem dX6_faultOfDays_55 : decode cX6_faultOfDays 55 = .ok (.invokestatic 51, 3) := by decide +kernel
theorem dX6_faultOfDays_58 : decode cX6_faultOfDays 58 = .ok (.ifCond .eq 20, 3) := by decide +kernel
theorem dX6_faultOfDays_61 : decode cX6_faultOfDays 61 = .ok (.aload_n 0, 1) := by decide +kernel
theorem dX6_faultOfDays_62 : decode cX6_faultOfDays 62 = .ok (.iload_n 1, 1) := by decide +kernel
theorem dX6_faultOfDays_63 : decode cX6_faultOfDays 63 = .ok (.iconst 2, 1) := by decide +kernel
theorem dX6_faultOfDays_64 : decode cX6_faultOfDays 64 = .ok (.iadd, 1) := by decide +kernel
theorem dX6_faultOfDays_65 : decode cX6_faultOfDays 65 = .ok (.invokevirtual 133, 3) := by decide +kernel
theorem dX6_faultOfDays_68 : decode cX6_faultOfDays 68 = .ok (.aload_n 0, 1) := by decide +kernel
theorem dX6_faultOfDays_69 : decode cX6_faultOfDays 69 = .ok (.iload_n 1, 1) := by decide +kernel
theorem dX6_faultOfDays_70 : decode cX6_faultOfDays 70 = .ok (.iconst 1, 1) := by decide +kernel
theorem dX6_faultOfDays_71 : decode cX6_faultOfDays 71 = .ok (.iadd, 1) := by decide +kernel
theorem dX6_faultOfDays_72 : decode cX6_faultOfDays 72 = .ok (.invokevirtual 133, 3) := by decide +kernel
theorem dX6_faultOfDays_75 : decode cX6_faultOfDays 75 = .ok (.if_icmp .ne 7, 3) := by decide +kernel
theorem dX6_faultOfDays_78 : decode cX6_faultOfDays 78 = .ok (.iload_n 1, 1) := by decide +kernel
theorem dX6_faultOfDays_79 : decode cX6_faultOfDays 79 = .ok (.iconst 2, 1) := by decide +kernel
theorem dX6_faultOfDays_80 : decode cX6_faultOfDays 80 = .ok (.iadd, 1) := by decide +kernel
theorem dX6_faultOfDays_81 : decode cX6_faultOfDays 81 = .ok (.ireturn, 1) := by decide +kernel
theorem dX6_faultOfDays_82 : decode cX6_faultOfDays 82 = .ok (.iinc 1 3, 3) := by decide +kernel
theorem dX6_faultOfDays_85 : decode cX6_faultOfDays 85 = .ok (.goto 23, 3) := by decide +kernel
theorem dX6_faultOfDays_88 : decode cX6_faultOfDays 88 = .ok (.iload_n 2, 1) := by decide +kernel
theorem dX6_faultOfDays_89 : decode cX6_faultOfDays 89 = .ok (.bipush 99, 2) := by decide +kernel
theorem dX6_faultOfDays_91 : decode cX6_faultOfDays 91 = .ok (.if_icmp .eq 9, 3) := by decide +kernel
theorem dX6_faultOfDays_94 : decode cX6_faultOfDays 94 = .ok (.iload_n 2, 1) := by decide +kernel
theorem dX6_faultOfDays_95 : decode cX6_faultOfDays 95 = .ok (.bipush 100, 2) := by decide +kernel
theorem dX6_faultOfDays_97 : decode cX6_faultOfDays 97 = .ok (.if_icmp .ne 9, 3) := by decide +kernel
theorem dX6_faultOfDays_100 : decode cX6_faultOfDays 100 = .ok (.iinc 1 1, 3) := by decide +kernel
theorem dX6_faultOfDays_103 : decode cX6_faultOfDays 103 = .ok (.goto 5, 3) := by decide +kernel
theorem dX6_faultOfDays_106 : decode cX6_faultOfDays 106 = .ok (.iload_n 1, 1) := by decide +kernel
theorem dX6_faultOfDays_107 : decode cX6_faultOfDays 107 = .ok (.ireturn, 1) := by decide +kernel
theorem dX6_faultOfDays_108 : decode cX6_faultOfDays 108 = .ok (.goto (-106), 3) := by decide +kernel
theorem dX6_faultOfDays_111 : decode cX6_faultOfDays 111 = .ok (.aload_n 0, 1) := by decide +kernel
theorem dX6_faultOfDays_112 : decode cX6_faultOfDays 112 = .ok (.getfield 130, 3) := by decide +kernel
theorem dX6_faultOfDays_115 : decode cX6_faultOfDays 115 = .ok (.ifCond .ne 7, 3) := by decide +kernel
theorem dX6_faultOfDays_118 : decode cX6_faultOfDays 118 = .ok (.iconst 0, 1) := by decide +kernel
theorem dX6_faultOfDays_119 : decode cX6_faultOfDays 119 = .ok (.goto 5, 3) := by decide +kernel
theorem dX6_faultOfDays_122 : decode cX6_faultOfDays 122 = .ok (.bipush (-4), 2) := by decide +kernel
theorem dX6_faultOfDays_124 : decode cX6_faultOfDays 124 = .ok (.ireturn, 1) := by decide +kernel
theorem dX6_fault_0 : decode cX6_fault 0 = .ok (.iload_n 1, 1) := by decide +kernel
theorem dX6_fault_1 : decode cX6_fault 1 = .ok (.ifCond .ne 10, 3) := by decide +kernel
theorem dX6_fault_4 : decode cX6_fault 4 = .ok (.aload_n 0, 1) := by decide +kernel
theorem dX6_fault_5 : decode cX6_fault 5 = .ok (.invokevirtual 142, 3) := by decide +kernel
theorem dX6_fault_8 : decode cX6_fault 8 = .ok (.goto 16, 3) := by decide +kernel
theorem dX6_fault_11 : decode cX6_fault 11 = .ok (.iload_n 1, 1) := by decide +kernel
theorem dX6_fault_12 : decode cX6_fault 12 = .ok (.iconst 1, 1) := by decide +kernel
theorem dX6_fault_13 : decode cX6_fault 13 = .ok (.if_icmp .ne 10, 3) := by decide +kernel
theorem dX6_fault_16 : decode cX6_fault 16 = .ok (.aload_n 0, 1) := by decide +kernel
theorem dX6_fault_17 : decode cX6_fault 17 = .ok (.invokevirtual 145, 3) := by decide +kernel
theorem dX6_fault_20 : decode cX6_fault 20 = .ok (.goto 4, 3) := by decide +kernel
theorem dX6_fault_23 : decode cX6_fault 23 = .ok (.iconst (-1), 1) := by decide +kernel
theorem dX6_fault_24 : decode cX6_fault 24 = .ok (.ireturn, 1) := by decide +kernel
theorem dX6_traders_0 : decode cX6_traders 0 = .ok (.aload_n 0, 1) := by decide +kernel
theorem dX6_traders_1 : decode cX6_traders 1 = .ok (.invokevirtual 142, 3) := by decide +kernel
theorem dX6_traders_4 : decode cX6_traders 4 = .ok (.bipush (-4), 2) := by decide +kernel
theorem dX6_traders_6 : decode cX6_traders 6 = .ok (.if_icmp .eq 6, 3) := by decide +kernel
theorem dX6_traders_9 : decode cX6_traders 9 = .ok (.bipush (-2), 2) := by decide +kernel
theorem dX6_traders_11 : decode cX6_traders 11 = .ok (.ireturn, 1) := by decide +kernel
theorem dX6_traders_12 : decode cX6_traders 12 = .ok (.aload_n 0, 1) := by decide +kernel
theorem dX6_traders_13 : decode cX6_traders 13 = .ok (.getfield 7, 3) := by decide +kernel
theorem dX6_traders_16 : decode cX6_traders 16 = .ok (.iconst 1, 1) := by decide +kernel
theorem dX6_traders_17 : decode cX6_traders 17 = .ok (.iaload, 1) := by decide +kernel
theorem dX6_traders_18 : decode cX6_traders 18 = .ok (.aload_n 0, 1) := by decide +kernel
theorem dX6_traders_19 : decode cX6_traders 19 = .ok (.getfield 136, 3) := by decide +kernel
theorem dX6_traders_22 : decode cX6_traders 22 = .ok (.iadd, 1) := by decide +kernel
theorem dX6_traders_23 : decode cX6_traders 23 = .ok (.bipush 7, 2) := by decide +kernel
theorem dX6_traders_25 : decode cX6_traders 25 = .ok (.if_icmp .le 6, 3) := by decide +kernel
theorem dX6_traders_28 : decode cX6_traders 28 = .ok (.bipush (-3), 2) := by decide +kernel
theorem dX6_traders_30 : decode cX6_traders 30 = .ok (.ireturn, 1) := by decide +kernel
theorem dX6_traders_31 : decode cX6_traders 31 = .ok (.aload_n 0, 1) := by decide +kernel
theorem dX6_traders_32 : decode cX6_traders 32 = .ok (.invokevirtual 108, 3) := by decide +kernel
theorem dX6_traders_35 : decode cX6_traders 35 = .ok (.iconst 0, 1) := by decide +kernel
theorem dX6_traders_36 : decode cX6_traders 36 = .ok (.istore_n 1, 1) := by decide +kernel
theorem dX6_traders_37 : decode cX6_traders 37 = .ok (.iload_n 1, 1) := by decide +kernel
theorem dX6_traders_38 : decode cX6_traders 38 = .ok (.aload_n 0, 1) := by decide +kernel
theorem dX6_traders_39 : decode cX6_traders 39 = .ok (.getfield 130, 3) := by decide +kernel
theorem dX6_traders_42 : decode cX6_traders 42 = .ok (.if_icmp .ge 66, 3) := by decide +kernel
theorem dX6_traders_45 : decode cX6_traders 45 = .ok (.aload_n 0, 1) := by decide +kernel
theorem dX6_traders_46 : decode cX6_traders 46 = .ok (.iload_n 1, 1) := by decide +kernel
theorem dX6_traders_47 : decode cX6_traders 47 = .ok (.invokevirtual 139, 3) := by decide +kernel
theorem dX6_traders_50 : decode cX6_traders 50 = .ok (.istore_n 2, 1) := by decide +kernel
theorem dX6_traders_51 : decode cX6_traders 51 = .ok (.iconst 0, 1) := by decide +kernel
theorem dX6_traders_52 : decode cX6_traders 52 = .ok (.istore_n 3, 1) := by decide +kernel
theorem dX6_traders_53 : decode cX6_traders 53 = .ok (.iload_n 1, 1) := by decide +kernel
theorem dX6_traders_54 : decode cX6_traders 54 = .ok (.iconst 2, 1) := by decide +kernel
theorem dX6_traders_55 : decode cX6_traders 55 = .ok (.iadd, 1) := by decide +kernel
theorem dX6_traders_56 : decode cX6_traders 56 = .ok (.istore 4, 2) := by decide +kernel
theorem dX6_traders_58 : decode cX6_traders 58 = .ok (.iload 4, 2) := by decide +kernel
theorem dX6_traders_60 : decode cX6_traders 60 = .ok (.iload_n 2, 1) := by decide +kernel
theorem dX6_traders_61 : decode cX6_traders 61 = .ok (.if_icmp .ge 24, 3) := by decide +kernel
theorem dX6_traders_64 : decode cX6_traders 64 = .ok (.iload_n 3, 1) := by decide +kernel
theorem dX6_traders_65 : decode cX6_traders 65 = .ok (.iconst 1, 1) := by decide +kernel
theorem dX6_traders_66 : decode cX6_traders 66 = .ok (.aload_n 0, 1) := by decide +kernel
theorem dX6_traders_67 : decode cX6_traders 67 = .ok (.getfield 22, 3) := by decide +kernel
theorem dX6_traders_70 : decode cX6_traders 70 = .ok (.iload 4, 2) := by decide +kernel
theorem dX6_traders_72 : decode cX6_traders 72 = .ok (.iaload, 1) := by decide +kernel
theorem dX6_traders_73 : decode cX6_traders 73 = .ok (.bipush 48, 2) := by decide +kernel
theorem dX6_traders_75 : decode cX6_traders 75 = .ok (.isub, 1) := by decide +kernel
theorem dX6_traders_76 : decode cX6_traders 76 = .ok (.ishl, 1) := by decide +kernel
theorem dX6_traders_77 : decode cX6_traders 77 = .ok (.ior, 1) := by decide +kernel
theorem dX6_traders_78 : decode cX6_traders 78 = .ok (.istore_n 3, 1) := by decide +kernel
theorem dX6_traders_79 : decode cX6_traders 79 = .ok (.iinc 4 1, 3) := by decide +kernel
theorem dX6_traders_82 : decode cX6_traders 82 = .ok (.goto (-24), 3) := by decide +kernel
theorem dX6_traders_85 : decode cX6_traders 85 = .ok (.aload_n 0, 1) := by decide +kernel
theorem dX6_traders_86 : decode cX6_traders 86 = .ok (.aload_n 0, 1) := by decide +kernel
theorem dX6_traders_87 : decode cX6_traders 87 = .ok (.getfield 22, 3) := by decide +kernel
theorem dX6_traders_90 : decode cX6_traders 90 = .ok (.iload_n 1, 1) := by decide +kernel
theorem dX6_traders_91 : decode cX6_traders 91 = .ok (.iaload, 1) := by decide +kernel
theorem dX6_traders_92 : decode cX6_traders 92 = .ok (.bipush 48, 2) := by decide +kernel
theorem dX6_traders_94 : decode cX6_traders 94 = .ok (.isub, 1) := by decide +kernel
theorem dX6_traders_95 : decode cX6_traders 95 = .ok (.iload_n 3, 1) := by decide +kernel
theorem dX6_traders_96 : decode cX6_traders 96 = .ok (.invokevirtual 111, 3) := by decide +kernel
theorem dX6_traders_99 : decode cX6_traders 99 = .ok (.istore 4, 2) := by decide +kernel
theorem dX6_traders_101 : decode cX6_traders 101 = .ok (.iload_n 2, 1) := by decide +kernel
theorem dX6_traders_102 : decode cX6_traders 102 = .ok (.iconst 1, 1) := by decide +kernel
theorem dX6_traders_103 : decode cX6_traders 103 = .ok (.iadd, 1) := by decide +kernel
theorem dX6_traders_104 : decode cX6_traders 104 = .ok (.istore_n 1, 1) := by decide +kernel
theorem dX6_traders_105 : decode cX6_traders 105 = .ok (.goto (-68), 3) := by decide +kernel
theorem dX6_traders_108 : decode cX6_traders 108 = .ok (.aload_n 0, 1) := by decide +kernel
theorem dX6_traders_109 : decode cX6_traders 109 = .ok (.iconst 0, 1) := by decide +kernel
theorem dX6_traders_110 : decode cX6_traders 110 = .ok (.putfield 130, 3) := by decide +kernel
theorem dX6_traders_113 : decode cX6_traders 113 = .ok (.aload_n 0, 1) := by decide +kernel
theorem dX6_traders_114 : decode cX6_traders 114 = .ok (.getfield 7, 3) := by decide +kernel
theorem dX6_traders_117 : decode cX6_traders 117 = .ok (.iconst 1, 1) := by decide +kernel
theorem dX6_traders_118 : decode cX6_traders 118 = .ok (.iaload, 1) := by decide +kernel
theorem dX6_traders_119 : decode cX6_traders 119 = .ok (.ireturn, 1) := by decide +kernel
theorem dX6_isDone_0 : decode cX6_isDone 0 = .ok (.aload_n 0, 1) := by decide +kernel
theorem dX6_isDone_1 : decode cX6_isDone 1 = .ok (.getfield 22, 3) := by decide +kernel
theorem dX6_isDone_4 : decode cX6_isDone 4 = .ok (.iload_n 1, 1) := by decide +kernel
theorem dX6_isDone_5 : decode cX6_isDone 5 = .ok (.iconst 1, 1) := by decide +kernel
theorem dX6_isDone_6 : decode cX6_isDone 6 = .ok (.iadd, 1) := by decide +kernel
theorem dX6_isDone_7 : decode cX6_isDone 7 = .ok (.iaload, 1) := by decide +kernel
theorem dX6_isDone_8 : decode cX6_isDone 8 = .ok (.bipush 48, 2) := by decide +kernel
theorem dX6_isDone_10 : decode cX6_isDone 10 = .ok (.isub, 1) := by decide +kernel
theorem dX6_isDone_11 : decode cX6_isDone 11 = .ok (.istore_n 2, 1) := by decide +kernel
theorem dX6_isDone_12 : decode cX6_isDone 12 = .ok (.aload_n 0, 1) := by decide +kernel
theorem dX6_isDone_13 : decode cX6_isDone 13 = .ok (.getfield 22, 3) := by decide +kernel
theorem dX6_isDone_16 : decode cX6_isDone 16 = .ok (.iload_n 1, 1) := by decide +kernel
theorem dX6_isDone_17 : decode cX6_isDone 17 = .ok (.iconst 2, 1) := by decide +kernel
theorem dX6_isDone_18 : decode cX6_isDone 18 = .ok (.iadd, 1) := by decide +kernel
theorem dX6_isDone_19 : decode cX6_isDone 19 = .ok (.iaload, 1) := by decide +kernel
theorem dX6_isDone_20 : decode cX6_isDone 20 = .ok (.bipush 48, 2) := by decide +kernel
theorem dX6_isDone_22 : decode cX6_isDone 22 = .ok (.isub, 1) := by decide +kernel
theorem dX6_isDone_23 : decode cX6_isDone 23 = .ok (.istore_n 3, 1) := by decide +kernel
theorem dX6_isDone_24 : decode cX6_isDone 24 = .ok (.aload_n 0, 1) := by decide +kernel
theorem dX6_isDone_25 : decode cX6_isDone 25 = .ok (.iload_n 2, 1) := by decide +kernel
theorem dX6_isDone_26 : decode cX6_isDone 26 = .ok (.iload_n 3, 1) := by decide +kernel
theorem dX6_isDone_27 : decode cX6_isDone 27 = .ok (.invokevirtual 117, 3) := by decide +kernel
theorem dX6_isDone_30 : decode cX6_isDone 30 = .ok (.ifCond .eq 12, 3) := by decide +kernel
theorem dX6_isDone_33 : decode cX6_isDone 33 = .ok (.aload_n 0, 1) := by decide +kernel
theorem dX6_isDone_34 : decode cX6_isDone 34 = .ok (.iload_n 2, 1) := by decide +kernel
theorem dX6_isDone_35 : decode cX6_isDone 35 = .ok (.iload_n 3, 1) := by decide +kernel
theorem dX6_isDone_36 : decode cX6_isDone 36 = .ok (.invokevirtual 120, 3) := by decide +kernel
theorem dX6_isDone_39 : decode cX6_isDone 39 = .ok (.goto 4, 3) := by decide +kernel
theorem dX6_isDone_42 : decode cX6_isDone 42 = .ok (.iconst (-1), 1) := by decide +kernel
theorem dX6_isDone_43 : decode cX6_isDone 43 = .ok (.istore 4, 2) := by decide +kernel
theorem dX6_isDone_45 : decode cX6_isDone 45 = .ok (.aload_n 0, 1) := by decide +kernel
theorem dX6_isDone_46 : decode cX6_isDone 46 = .ok (.iload 4, 2) := by decide +kernel
theorem dX6_isDone_48 : decode cX6_isDone 48 = .ok (.bipush 10, 2) := by decide +kernel
theorem dX6_isDone_50 : decode cX6_isDone 50 = .ok (.if_icmp .ne 8, 3) := by decide +kernel
theorem dX6_isDone_53 : decode cX6_isDone 53 = .ok (.bipush (-4), 2) := by decide +kernel
theorem dX6_isDone_55 : decode cX6_isDone 55 = .ok (.goto 5, 3) := by decide +kernel
theorem dX6_isDone_58 : decode cX6_isDone 58 = .ok (.iload 4, 2) := by decide +kernel
theorem dX6_isDone_60 : decode cX6_isDone 60 = .ok (.putfield 25, 3) := by decide +kernel
theorem dX6_isDone_63 : decode cX6_isDone 63 = .ok (.aload_n 0, 1) := by decide +kernel
theorem dX6_isDone_64 : decode cX6_isDone 64 = .ok (.iload 4, 2) := by decide +kernel
theorem dX6_isDone_66 : decode cX6_isDone 66 = .ok (.bipush 10, 2) := by decide +kernel
theorem dX6_isDone_68 : decode cX6_isDone 68 = .ok (.if_icmp .ne 8, 3) := by decide +kernel
theorem dX6_isDone_71 : decode cX6_isDone 71 = .ok (.bipush (-4), 2) := by decide +kernel
theorem dX6_isDone_73 : decode cX6_isDone 73 = .ok (.goto 4, 3) := by decide +kernel
theorem dX6_isDone_76 : decode cX6_isDone 76 = .ok (.iload_n 1, 1) := by decide +kernel
theorem dX6_isDone_77 : decode cX6_isDone 77 = .ok (.putfield 29, 3) := by decide +kernel
theorem dX6_isDone_80 : decode cX6_isDone 80 = .ok (.iload 4, 2) := by decide +kernel
theorem dX6_isDone_82 : decode cX6_isDone 82 = .ok (.bipush 10, 2) := by decide +kernel
theorem dX6_isDone_84 : decode cX6_isDone 84 = .ok (.if_icmp .ne 7, 3) := by decide +kernel
theorem dX6_isDone_87 : decode cX6_isDone 87 = .ok (.iconst 1, 1) := by decide +kernel
theorem dX6_isDone_88 : decode cX6_isDone 88 = .ok (.goto 4, 3) := by decide +kernel
theorem dX6_isDone_91 : decode cX6_isDone 91 = .ok (.iconst 0, 1) := by decide +kernel
theorem dX6_isDone_92 : decode cX6_isDone 92 = .ok (.ireturn, 1) := by decide +kernel
theorem dX6_days_0 : decode cX6_days 0 = .ok (.aload_n 0, 1) := by decide +kernel
theorem dX6_days_1 : decode cX6_days 1 = .ok (.invokevirtual 145, 3) := by decide +kernel
theorem dX6_days_4 : decode cX6_days 4 = .ok (.bipush (-4), 2) := by decide +kernel
theorem dX6_days_6 : decode cX6_days 6 = .ok (.if_icmp .eq 6, 3) := by decide +kernel
theorem dX6_days_9 : decode cX6_days 9 = .ok (.bipush (-2), 2) := by decide +kernel
theorem dX6_days_11 : decode cX6_days 11 = .ok (.ireturn, 1) := by decide +kernel
theorem dX6_days_12 : decode cX6_days 12 = .ok (.aload_n 0, 1) := by decide +kernel
theorem dX6_days_13 : decode cX6_days 13 = .ok (.invokevirtual 108, 3) := by decide +kernel
theorem dX6_days_16 : decode cX6_days 16 = .ok (.aload_n 0, 1) := by decide +kernel
theorem dX6_days_17 : decode cX6_days 17 = .ok (.getfield 7, 3) := by decide +kernel
theorem dX6_days_20 : decode cX6_days 20 = .ok (.iconst 2, 1) := by decide +kernel
theorem dX6_days_21 : decode cX6_days 21 = .ok (.iaload, 1) := by decide +kernel
theorem dX6_days_22 : decode cX6_days 22 = .ok (.istore_n 1, 1) := by decide +kernel
theorem dX6_days_23 : decode cX6_days 23 = .ok (.iconst 0, 1) := by decide +kernel
theorem dX6_days_24 : decode cX6_days 24 = .ok (.istore_n 2, 1) := by decide +kernel
theorem dX6_days_25 : decode cX6_days 25 = .ok (.iconst 1, 1) := by decide +kernel
theorem dX6_days_26 : decode cX6_days 26 = .ok (.istore_n 3, 1) := by decide +kernel
theorem dX6_days_27 : decode cX6_days 27 = .ok (.aload_n 0, 1) := by decide +kernel
theorem dX6_days_28 : decode cX6_days 28 = .ok (.bipush (-4), 2) := by decide +kernel
theorem dX6_days_30 : decode cX6_days 30 = .ok (.putfield 25, 3) := by decide +kernel
theorem dX6_days_33 : decode cX6_days 33 = .ok (.aload_n 0, 1) := by decide +kernel
theorem dX6_days_34 : decode cX6_days 34 = .ok (.bipush (-4), 2) := by decide +kernel
theorem dX6_days_36 : decode cX6_days 36 = .ok (.putfield 29, 3) := by decide +kernel
theorem dX6_days_39 : decode cX6_days 39 = .ok (.iload_n 3, 1) := by decide +kernel
theorem dX6_days_40 : decode cX6_days 40 = .ok (.ifCond .eq 89, 3) := by decide +kernel
theorem dX6_days_43 : decode cX6_days 43 = .ok (.iload_n 2, 1) := by decide +kernel
theorem dX6_days_44 : decode cX6_days 44 = .ok (.aload_n 0, 1) := by decide +kernel
theorem dX6_days_45 : decode cX6_days 45 = .ok (.getfield 130, 3) := by decide +kernel
theorem dX6_days_48 : decode cX6_days 48 = .ok (.if_icmp .ge 81, 3) := by decide +kernel
theorem dX6_days_51 : decode cX6_days 51 = .ok (.aload_n 0, 1) := by decide +kernel
theorem dX6_days_52 : decode cX6_days 52 = .ok (.getfield 22, 3) := by decide +kernel
theorem dX6_days_55 : decode cX6_days 55 = .ok (.iload_n 2, 1) := by decide +kernel
theorem dX6_days_56 : decode cX6_days 56 = .ok (.iaload, 1) := by decide +kernel
theorem dX6_days_57 : decode cX6_days 57 = .ok (.istore 4, 2) := by decide +kernel
theorem dX6_days_59 : decode cX6_days 59 = .ok (.iload 4, 2) := by decide +kernel
theorem dX6_days_61 : decode cX6_days 61 = .ok (.bipush 99, 2) := by decide +kernel
theorem dX6_days_63 : decode cX6_days 63 = .ok (.if_icmp .ne 10, 3) := by decide +kernel
theorem dX6_days_66 : decode cX6_days 66 = .ok (.aload_n 0, 1) := by decide +kernel
theorem dX6_days_67 : decode cX6_days 67 = .ok (.invokevirtual 123, 3) := by decide +kernel
theorem dX6_days_70 : decode cX6_days 70 = .ok (.goto 18, 3) := by decide +kernel
theorem dX6_days_73 : decode cX6_days 73 = .ok (.iload 4, 2) := by decide +kernel
theorem dX6_days_75 : decode cX6_days 75 = .ok (.bipush 100, 2) := by decide +kernel
theorem dX6_days_77 : decode cX6_days 77 = .ok (.if_icmp .ne 10, 3) := by decide +kernel
theorem dX6_days_80 : decode cX6_days 80 = .ok (.aload_n 0, 1) := by decide +kernel
theorem dX6_days_81 : decode cX6_days 81 = .ok (.invokevirtual 127, 3) := by decide +kernel
theorem dX6_days_84 : decode cX6_days 84 = .ok (.goto 4, 3) := by decide +kernel
theorem dX6_days_87 : decode cX6_days 87 = .ok (.iconst 0, 1) := by decide +kernel
theorem dX6_days_88 : decode cX6_days 88 = .ok (.istore 5, 2) := by decide +kernel
theorem dX6_days_90 : decode cX6_days 90 = .ok (.iload 4, 2) := by decide +kernel
theorem dX6_days_92 : decode cX6_days 92 = .ok (.bipush 120, 2) := by decide +kernel
theorem dX6_days_94 : decode cX6_days 94 = .ok (.if_icmp .ne 11, 3) := by decide +kernel
theorem dX6_days_97 : decode cX6_days 97 = .ok (.aload_n 0, 1) := by decide +kernel
theorem dX6_days_98 : decode cX6_days 98 = .ok (.iload_n 2, 1) := by decide +kernel
theorem dX6_days_99 : decode cX6_days 99 = .ok (.invokevirtual 148, 3) := by decide +kernel
theorem dX6_days_102 : decode cX6_days 102 = .ok (.ifCond .eq 7, 3) := by decide +kernel
theorem dX6_days_105 : decode cX6_days 105 = .ok (.iconst 1, 1) := by decide +kernel
theorem dX6_days_106 : decode cX6_days 106 = .ok (.goto 4, 3) := by decide +kernel
theorem dX6_days_109 : decode cX6_days 109 = .ok (.iconst 0, 1) := by decide +kernel
theorem dX6_days_110 : decode cX6_days 110 = .ok (.istore_n 3, 1) := by decide +kernel
theorem dX6_days_111 : decode cX6_days 111 = .ok (.iload_n 2, 1) := by decide +kernel
theorem dX6_days_112 : decode cX6_days 112 = .ok (.iload 4, 2) := by decide +kernel
theorem dX6_days_114 : decode cX6_days 114 = .ok (.bipush 120, 2) := by decide +kernel
theorem dX6_days_116 : decode cX6_days 116 = .ok (.if_icmp .ne 7, 3) := by decide +kernel
theorem dX6_days_119 : decode cX6_days 119 = .ok (.iconst 3, 1) := by decide +kernel
theorem dX6_days_120 : decode cX6_days 120 = .ok (.goto 4, 3) := by decide +kernel
theorem dX6_days_123 : decode cX6_days 123 = .ok (.iconst 1, 1) := by decide +kernel
theorem dX6_days_124 : decode cX6_days 124 = .ok (.iadd, 1) := by decide +kernel
theorem dX6_days_125 : decode cX6_days 125 = .ok (.istore_n 2, 1) := by decide +kernel
theorem dX6_days_126 : decode cX6_days 126 = .ok (.goto (-87), 3) := by decide +kernel
theorem dX6_days_129 : decode cX6_days 129 = .ok (.aload_n 0, 1) := by decide +kernel
theorem dX6_days_130 : decode cX6_days 130 = .ok (.iconst 0, 1) := by decide +kernel
theorem dX6_days_131 : decode cX6_days 131 = .ok (.putfield 130, 3) := by decide +kernel
theorem dX6_days_134 : decode cX6_days 134 = .ok (.aload_n 0, 1) := by decide +kernel
theorem dX6_days_135 : decode cX6_days 135 = .ok (.getfield 7, 3) := by decide +kernel
theorem dX6_days_138 : decode cX6_days 138 = .ok (.iconst 2, 1) := by decide +kernel
theorem dX6_days_139 : decode cX6_days 139 = .ok (.iaload, 1) := by decide +kernel
theorem dX6_days_140 : decode cX6_days 140 = .ok (.iload_n 1, 1) := by decide +kernel
theorem dX6_days_141 : decode cX6_days 141 = .ok (.isub, 1) := by decide +kernel
theorem dX6_days_142 : decode cX6_days 142 = .ok (.ireturn, 1) := by decide +kernel
theorem dX6_why_0 : decode cX6_why 0 = .ok (.iload_n 1, 1) := by decide +kernel
theorem dX6_why_1 : decode cX6_why 1 = .ok (.ifCond .ne 10, 3) := by decide +kernel
theorem dX6_why_4 : decode cX6_why 4 = .ok (.aload_n 0, 1) := by decide +kernel
theorem dX6_why_5 : decode cX6_why 5 = .ok (.getfield 25, 3) := by decide +kernel
theorem dX6_why_8 : decode cX6_why 8 = .ok (.goto 16, 3) := by decide +kernel
theorem dX6_why_11 : decode cX6_why 11 = .ok (.iload_n 1, 1) := by decide +kernel
theorem dX6_why_12 : decode cX6_why 12 = .ok (.iconst 1, 1) := by decide +kernel
theorem dX6_why_13 : decode cX6_why 13 = .ok (.if_icmp .ne 10, 3) := by decide +kernel
theorem dX6_why_16 : decode cX6_why 16 = .ok (.aload_n 0, 1) := by decide +kernel
theorem dX6_why_17 : decode cX6_why 17 = .ok (.getfield 29, 3) := by decide +kernel
theorem dX6_why_20 : decode cX6_why 20 = .ok (.goto 4, 3) := by decide +kernel
theorem dX6_why_23 : decode cX6_why 23 = .ok (.iconst (-1), 1) := by decide +kernel
theorem dX6_why_24 : decode cX6_why 24 = .ok (.ireturn, 1) := by decide +kernel
theorem dX6_takesFrom_0 : decode cX6_takesFrom 0 = .ok (.iconst 0, 1) := by decide +kernel
theorem dX6_takesFrom_1 : decode cX6_takesFrom 1 = .ok (.istore_n 2, 1) := by decide +kernel
theorem dX6_takesFrom_2 : decode cX6_takesFrom 2 = .ok (.iconst 0, 1) := by decide +kernel
theorem dX6_takesFrom_3 : decode cX6_takesFrom 3 = .ok (.istore_n 3, 1) := by decide +kernel
theorem dX6_takesFrom_4 : decode cX6_takesFrom 4 = .ok (.iload_n 3, 1) := by decide +kernel
theorem dX6_takesFrom_5 : decode cX6_takesFrom 5 = .ok (.aload_n 0, 1) := by decide +kernel
theorem dX6_takesFrom_6 : decode cX6_takesFrom 6 = .ok (.getfield 7, 3) := by decide +kernel
theorem dX6_takesFrom_9 : decode cX6_takesFrom 9 = .ok (.iconst 1, 1) := by decide +kernel
theorem dX6_takesFrom_10 : decode cX6_takesFrom 10 = .ok (.iaload, 1) := by decide +kernel
theorem dX6_takesFrom_11 : decode cX6_takesFrom 11 = .ok (.if_icmp .ge 26, 3) := by decide +kernel
theorem dX6_takesFrom_14 : decode cX6_takesFrom 14 = .ok (.iload_n 2, 1) := by decide +kernel
theorem dX6_takesFrom_15 : decode cX6_takesFrom 15 = .ok (.aload_n 0, 1) := by decide +kernel
theorem dX6_takesFrom_16 : decode cX6_takesFrom 16 = .ok (.iload_n 1, 1) := by decide +kernel
theorem dX6_takesFrom_17 : decode cX6_takesFrom 17 = .ok (.iload_n 3, 1) := by decide +kernel
theorem dX6_takesFrom_18 : decode cX6_takesFrom 18 = .ok (.invokevirtual 79, 3) := by decide +kernel
theorem dX6_takesFrom_21 : decode cX6_takesFrom 21 = .ok (.ifCond .eq 7, 3) := by decide +kernel
theorem dX6_takesFrom_24 : decode cX6_takesFrom 24 = .ok (.iconst 1, 1) := by decide +kernel
theorem dX6_takesFrom_25 : decode cX6_takesFrom 25 = .ok (.goto 4, 3) := by decide +kernel
theorem dX6_takesFrom_28 : decode cX6_takesFrom 28 = .ok (.iconst 0, 1) := by decide +kernel
theorem dX6_takesFrom_29 : decode cX6_takesFrom 29 = .ok (.iadd, 1) := by decide +kernel
theorem dX6_takesFrom_30 : decode cX6_takesFrom 30 = .ok (.istore_n 2, 1) := by decide +kernel
theorem dX6_takesFrom_31 : decode cX6_takesFrom 31 = .ok (.iinc 3 1, 3) := by decide +kernel
theorem dX6_takesFrom_34 : decode cX6_takesFrom 34 = .ok (.goto (-30), 3) := by decide +kernel
theorem dX6_takesFrom_37 : decode cX6_takesFrom 37 = .ok (.iload_n 2, 1) := by decide +kernel
theorem dX6_takesFrom_38 : decode cX6_takesFrom 38 = .ok (.ireturn, 1) := by decide +kernel
theorem dX6_givesTo_0 : decode cX6_givesTo 0 = .ok (.iconst 0, 1) := by decide +kernel
theorem dX6_givesTo_1 : decode cX6_givesTo 1 = .ok (.istore_n 2, 1) := by decide +kernel
theorem dX6_givesTo_2 : decode cX6_givesTo 2 = .ok (.iconst 0, 1) := by decide +kernel
theorem dX6_givesTo_3 : decode cX6_givesTo 3 = .ok (.istore_n 3, 1) := by decide +kernel
theorem dX6_givesTo_4 : decode cX6_givesTo 4 = .ok (.iload_n 3, 1) := by decide +kernel
theorem dX6_givesTo_5 : decode cX6_givesTo 5 = .ok (.aload_n 0, 1) := by decide +kernel
theorem dX6_givesTo_6 : decode cX6_givesTo 6 = .ok (.getfield 7, 3) := by decide +kernel
theorem dX6_givesTo_9 : decode cX6_givesTo 9 = .ok (.iconst 1, 1) := by decide +kernel
theorem dX6_givesTo_10 : decode cX6_givesTo 10 = .ok (.iaload, 1) := by decide +kernel
theorem dX6_givesTo_11 : decode cX6_givesTo 11 = .ok (.if_icmp .ge 26, 3) := by decide +kernel
theorem dX6_givesTo_14 : decode cX6_givesTo 14 = .ok (.iload_n 2, 1) := by decide +kernel
theorem dX6_givesTo_15 : decode cX6_givesTo 15 = .ok (.aload_n 0, 1) := by decide +kernel
theorem dX6_givesTo_16 : decode cX6_givesTo 16 = .ok (.iload_n 3, 1) := by decide +kernel
theorem dX6_givesTo_17 : decode cX6_givesTo 17 = .ok (.iload_n 1, 1) := by decide +kernel
theorem dX6_givesTo_18 : decode cX6_givesTo 18 = .ok (.invokevirtual 79, 3) := by decide +kernel
theorem dX6_givesTo_21 : decode cX6_givesTo 21 = .ok (.ifCond .eq 7, 3) := by decide +kernel
theorem dX6_givesTo_24 : decode cX6_givesTo 24 = .ok (.iconst 1, 1) := by decide +kernel
theorem dX6_givesTo_25 : decode cX6_givesTo 25 = .ok (.goto 4, 3) := by decide +kernel
theorem dX6_givesTo_28 : decode cX6_givesTo 28 = .ok (.iconst 0, 1) := by decide +kernel
theorem dX6_givesTo_29 : decode cX6_givesTo 29 = .ok (.iadd, 1) := by decide +kernel
theorem dX6_givesTo_30 : decode cX6_givesTo 30 = .ok (.istore_n 2, 1) := by decide +kernel
theorem dX6_givesTo_31 : decode cX6_givesTo 31 = .ok (.iinc 3 1, 3) := by decide +kernel
theorem dX6_givesTo_34 : decode cX6_givesTo 34 = .ok (.goto (-30), 3) := by decide +kernel
theorem dX6_givesTo_37 : decode cX6_givesTo 37 = .ok (.iload_n 2, 1) := by decide +kernel
theorem dX6_givesTo_38 : decode cX6_givesTo 38 = .ok (.ireturn, 1) := by decide +kernel
theorem dX6_bestFor_0 : decode cX6_bestFor 0 = .ok (.aload_n 0, 1) := by decide +kernel
theorem dX6_bestFor_1 : decode cX6_bestFor 1 = .ok (.aload_n 0, 1) := by decide +kernel
theorem dX6_bestFor_2 : decode cX6_bestFor 2 = .ok (.getfield 7, 3) := by decide +kernel
theorem dX6_bestFor_5 : decode cX6_bestFor 5 = .ok (.bipush 7, 2) := by decide +kernel
theorem dX6_bestFor_7 : decode cX6_bestFor 7 = .ok (.iaload, 1) := by decide +kernel
theorem dX6_bestFor_8 : decode cX6_bestFor 8 = .ok (.invokevirtual 92, 3) := by decide +kernel
theorem dX6_bestFor_11 : decode cX6_bestFor 11 = .ok (.aload_n 0, 1) := by decide +kernel
theorem dX6_bestFor_12 : decode cX6_bestFor 12 = .ok (.getfield 32, 3) := by decide +kernel
theorem dX6_bestFor_15 : decode cX6_bestFor 15 = .ok (.iload_n 1, 1) := by decide +kernel
theorem dX6_bestFor_16 : decode cX6_bestFor 16 = .ok (.iaload, 1) := by decide +kernel
theorem dX6_bestFor_17 : decode cX6_bestFor 17 = .ok (.ireturn, 1) := by decide +kernel
theorem dX6_trader_0 : decode cX6_trader 0 = .ok (.aload_n 0, 1) := by decide +kernel
theorem dX6_trader_1 : decode cX6_trader 1 = .ok (.iload_n 1, 1) := by decide +kernel
theorem dX6_trader_2 : decode cX6_trader 2 = .ok (.invokevirtual 55, 3) := by decide +kernel
theorem dX6_trader_5 : decode cX6_trader 5 = .ok (.ifCond .ne 5, 3) := by decide +kernel
theorem dX6_trader_8 : decode cX6_trader 8 = .ok (.iconst (-1), 1) := by decide +kernel
theorem dX6_trader_9 : decode cX6_trader 9 = .ok (.ireturn, 1) := by decide +kernel
theorem dX6_trader_10 : decode cX6_trader 10 = .ok (.iload_n 2, 1) := by decide +kernel
theorem dX6_trader_11 : decode cX6_trader 11 = .ok (.tableswitch 108 0 9 #[53, 53, 53, 53, 60, 66, 83, 90, 96, 102], 53) := by decide +kernel
theorem dX6_trader_64 : decode cX6_trader 64 = .ok (.aload_n 0, 1) := by decide +kernel
theorem dX6_trader_65 : decode cX6_trader 65 = .ok (.iload_n 1, 1) := by decide +kernel
theorem dX6_trader_66 : decode cX6_trader 66 = .ok (.iload_n 2, 1) := by decide +kernel
theorem dX6_trader_67 : decode cX6_trader 67 = .ok (.invokevirtual 65, 3) := by decide +kernel
theorem dX6_trader_70 : decode cX6_trader 70 = .ok (.ireturn, 1) := by decide +kernel
theorem dX6_trader_71 : decode cX6_trader 71 = .ok (.aload_n 0, 1) := by decide +kernel
theorem dX6_trader_72 : decode cX6_trader 72 = .ok (.iload_n 1, 1) := by decide +kernel
theorem dX6_trader_73 : decode cX6_trader 73 = .ok (.invokevirtual 68, 3) := by decide +kernel
theorem dX6_trader_76 : decode cX6_trader 76 = .ok (.ireturn, 1) := by decide +kernel
theorem dX6_trader_77 : decode cX6_trader 77 = .ok (.aload_n 0, 1) := by decide +kernel
theorem dX6_trader_78 : decode cX6_trader 78 = .ok (.getfield 7, 3) := by decide +kernel
theorem dX6_trader_81 : decode cX6_trader 81 = .ok (.bipush 9, 2) := by decide +kernel
theorem dX6_trader_83 : decode cX6_trader 83 = .ok (.iaload, 1) := by decide +kernel
theorem dX6_trader_84 : decode cX6_trader 84 = .ok (.iload_n 1, 1) := by decide +kernel
theorem dX6_trader_85 : decode cX6_trader 85 = .ok (.if_icmp .ne 7, 3) := by decide +kernel
theorem dX6_trader_88 : decode cX6_trader 88 = .ok (.iconst 1, 1) := by decide +kernel
theorem dX6_trader_89 : decode cX6_trader 89 = .ok (.goto 4, 3) := by decide +kernel
theorem dX6_trader_92 : decode cX6_trader 92 = .ok (.iconst 0, 1) := by decide +kernel
theorem dX6_trader_93 : decode cX6_trader 93 = .ok (.ireturn, 1) := by decide +kernel
theorem dX6_trader_94 : decode cX6_trader 94 = .ok (.aload_n 0, 1) := by decide +kernel
theorem dX6_trader_95 : decode cX6_trader 95 = .ok (.iload_n 1, 1) := by decide +kernel
theorem dX6_trader_96 : decode cX6_trader 96 = .ok (.iconst 4, 1) := by decide +kernel
theorem dX6_trader_97 : decode cX6_trader 97 = .ok (.invokevirtual 65, 3) := by decide +kernel
theorem dX6_trader_100 : decode cX6_trader 100 = .ok (.ireturn, 1) := by decide +kernel
theorem dX6_trader_101 : decode cX6_trader 101 = .ok (.aload_n 0, 1) := by decide +kernel
theorem dX6_trader_102 : decode cX6_trader 102 = .ok (.iload_n 1, 1) := by decide +kernel
theorem dX6_trader_103 : decode cX6_trader 103 = .ok (.invokevirtual 151, 3) := by decide +kernel
theorem dX6_trader_106 : decode cX6_trader 106 = .ok (.ireturn, 1) := by decide +kernel
theorem dX6_trader_107 : decode cX6_trader 107 = .ok (.aload_n 0, 1) := by decide +kernel
theorem dX6_trader_108 : decode cX6_trader 108 = .ok (.iload_n 1, 1) := by decide +kernel
theorem dX6_trader_109 : decode cX6_trader 109 = .ok (.invokevirtual 154, 3) := by decide +kernel
theorem dX6_trader_112 : decode cX6_trader 112 = .ok (.ireturn, 1) := by decide +kernel
theorem dX6_trader_113 : decode cX6_trader 113 = .ok (.aload_n 0, 1) := by decide +kernel
theorem dX6_trader_114 : decode cX6_trader 114 = .ok (.iload_n 1, 1) := by decide +kernel
theorem dX6_trader_115 : decode cX6_trader 115 = .ok (.invokevirtual 157, 3) := by decide +kernel
theorem dX6_trader_118 : decode cX6_trader 118 = .ok (.ireturn, 1) := by decide +kernel
theorem dX6_trader_119 : decode cX6_trader 119 = .ok (.iconst (-1), 1) := by decide +kernel
theorem dX6_trader_120 : decode cX6_trader 120 = .ok (.ireturn, 1) := by decide +kernel
theorem dX6_can_0 : decode cX6_can 0 = .ok (.aload_n 0, 1) := by decide +kernel
theorem dX6_can_1 : decode cX6_can 1 = .ok (.iload_n 1, 1) := by decide +kernel
theorem dX6_can_2 : decode cX6_can 2 = .ok (.iload_n 2, 1) := by decide +kernel
theorem dX6_can_3 : decode cX6_can 3 = .ok (.invokevirtual 117, 3) := by decide +kernel
theorem dX6_can_6 : decode cX6_can 6 = .ok (.ifCond .ne 7, 3) := by decide +kernel
theorem dX6_can_9 : decode cX6_can 9 = .ok (.iconst (-1), 1) := by decide +kernel
theorem dX6_can_10 : decode cX6_can 10 = .ok (.goto 17, 3) := by decide +kernel
theorem dX6_can_13 : decode cX6_can 13 = .ok (.aload_n 0, 1) := by decide +kernel
theorem dX6_can_14 : decode cX6_can 14 = .ok (.iload_n 1, 1) := by decide +kernel
theorem dX6_can_15 : decode cX6_can 15 = .ok (.iload_n 2, 1) := by decide +kernel
theorem dX6_can_16 : decode cX6_can 16 = .ok (.invokevirtual 79, 3) := by decide +kernel
theorem dX6_can_19 : decode cX6_can 19 = .ok (.ifCond .eq 7, 3) := by decide +kernel
theorem dX6_can_22 : decode cX6_can 22 = .ok (.iconst 1, 1) := by decide +kernel
theorem dX6_can_23 : decode cX6_can 23 = .ok (.goto 4, 3) := by decide +kernel
theorem dX6_can_26 : decode cX6_can 26 = .ok (.iconst 0, 1) := by decide +kernel
theorem dX6_can_27 : decode cX6_can 27 = .ok (.ireturn, 1) := by decide +kernel
theorem dX6_whyNot_0 : decode cX6_whyNot 0 = .ok (.aload_n 0, 1) := by decide +kernel
theorem dX6_whyNot_1 : decode cX6_whyNot 1 = .ok (.iload_n 1, 1) := by decide +kernel
theorem dX6_whyNot_2 : decode cX6_whyNot 2 = .ok (.iload_n 2, 1) := by decide +kernel
theorem dX6_whyNot_3 : decode cX6_whyNot 3 = .ok (.invokevirtual 117, 3) := by decide +kernel
theorem dX6_whyNot_6 : decode cX6_whyNot 6 = .ok (.ifCond .eq 12, 3) := by decide +kernel
theorem dX6_whyNot_9 : decode cX6_whyNot 9 = .ok (.aload_n 0, 1) := by decide +kernel
theorem dX6_whyNot_10 : decode cX6_whyNot 10 = .ok (.iload_n 1, 1) := by decide +kernel
theorem dX6_whyNot_11 : decode cX6_whyNot 11 = .ok (.iload_n 2, 1) := by decide +kernel
theorem dX6_whyNot_12 : decode cX6_whyNot 12 = .ok (.invokevirtual 102, 3) := by decide +kernel
theorem dX6_whyNot_15 : decode cX6_whyNot 15 = .ok (.goto 4, 3) := by decide +kernel
theorem dX6_whyNot_18 : decode cX6_whyNot 18 = .ok (.iconst (-1), 1) := by decide +kernel
theorem dX6_whyNot_19 : decode cX6_whyNot 19 = .ok (.ireturn, 1) := by decide +kernel
theorem dX6_mostWith_0 : decode cX6_mostWith 0 = .ok (.aload_n 0, 1) := by decide +kernel
theorem dX6_mostWith_1 : decode cX6_mostWith 1 = .ok (.iload_n 1, 1) := by decide +kernel
theorem dX6_mostWith_2 : decode cX6_mostWith 2 = .ok (.invokevirtual 92, 3) := by decide +kernel
theorem dX6_mostWith_5 : decode cX6_mostWith 5 = .ok (.aload_n 0, 1) := by decide +kernel
theorem dX6_mostWith_6 : decode cX6_mostWith 6 = .ok (.getfield 76, 3) := by decide +kernel
theorem dX6_mostWith_9 : decode cX6_mostWith 9 = .ok (.ireturn, 1) := by decide +kernel
theorem dX6_most_0 : decode cX6_most 0 = .ok (.iload_n 1, 1) := by decide +kernel
theorem dX6_most_1 : decode cX6_most 1 = .ok (.iconst 0, 1) := by decide +kernel
theorem dX6_most_2 : decode cX6_most 2 = .ok (.iconst 1, 1) := by decide +kernel
theorem dX6_most_3 : decode cX6_most 3 = .ok (.invokestatic 51, 3) := by decide +kernel
theorem dX6_most_6 : decode cX6_most 6 = .ok (.ifCond .eq 17, 3) := by decide +kernel
theorem dX6_most_9 : decode cX6_most 9 = .ok (.aload_n 0, 1) := by decide +kernel
theorem dX6_most_10 : decode cX6_most 10 = .ok (.aload_n 0, 1) := by decide +kernel
theorem dX6_most_11 : decode cX6_most 11 = .ok (.getfield 7, 3) := by decide +kernel
theorem dX6_most_14 : decode cX6_most 14 = .ok (.bipush 7, 2) := by decide +kernel
theorem dX6_most_16 : decode cX6_most 16 = .ok (.iaload, 1) := by decide +kernel
theorem dX6_most_17 : decode cX6_most 17 = .ok (.invokevirtual 160, 3) := by decide +kernel
theorem dX6_most_20 : decode cX6_most 20 = .ok (.goto 4, 3) := by decide +kernel
theorem dX6_most_23 : decode cX6_most 23 = .ok (.iconst (-1), 1) := by decide +kernel
theorem dX6_most_24 : decode cX6_most 24 = .ok (.ireturn, 1) := by decide +kernel
theorem dX6_sumOf_0 : decode cX6_sumOf 0 = .ok (.iconst 0, 1) := by decide +kernel
theorem dX6_sumOf_1 : decode cX6_sumOf 1 = .ok (.istore_n 3, 1) := by decide +kernel
theorem dX6_sumOf_2 : decode cX6_sumOf 2 = .ok (.iconst 0, 1) := by decide +kernel
theorem dX6_sumOf_3 : decode cX6_sumOf 3 = .ok (.istore 4, 2) := by decide +kernel
theorem dX6_sumOf_5 : decode cX6_sumOf 5 = .ok (.iload 4, 2) := by decide +kernel
theorem dX6_sumOf_7 : decode cX6_sumOf 7 = .ok (.aload_n 0, 1) := by decide +kernel
theorem dX6_sumOf_8 : decode cX6_sumOf 8 = .ok (.getfield 7, 3) := by decide +kernel
theorem dX6_sumOf_11 : decode cX6_sumOf 11 = .ok (.iconst 1, 1) := by decide +kernel
theorem dX6_sumOf_12 : decode cX6_sumOf 12 = .ok (.iaload, 1) := by decide +kernel
theorem dX6_sumOf_13 : decode cX6_sumOf 13 = .ok (.if_icmp .ge 123, 3) := by decide +kernel
theorem dX6_sumOf_16 : decode cX6_sumOf 16 = .ok (.aload_n 0, 1) := by decide +kernel
theorem dX6_sumOf_17 : decode cX6_sumOf 17 = .ok (.iload 4, 2) := by decide +kernel
theorem dX6_sumOf_19 : decode cX6_sumOf 19 = .ok (.iconst 2, 1) := by decide +kernel
theorem dX6_sumOf_20 : decode cX6_sumOf 20 = .ok (.invokevirtual 65, 3) := by decide +kernel
theorem dX6_sumOf_23 : decode cX6_sumOf 23 = .ok (.iload_n 1, 1) := by decide +kernel
theorem dX6_sumOf_24 : decode cX6_sumOf 24 = .ok (.if_icmp .ne 7, 3) := by decide +kernel
theorem dX6_sumOf_27 : decode cX6_sumOf 27 = .ok (.iconst 1, 1) := by decide +kernel
theorem dX6_sumOf_28 : decode cX6_sumOf 28 = .ok (.goto 4, 3) := by decide +kernel
theorem dX6_sumOf_31 : decode cX6_sumOf 31 = .ok (.iconst 0, 1) := by decide +kernel
theorem dX6_sumOf_32 : decode cX6_sumOf 32 = .ok (.istore 5, 2) := by decide +kernel
theorem dX6_sumOf_34 : decode cX6_sumOf 34 = .ok (.iload_n 2, 1) := by decide +kernel
theorem dX6_sumOf_35 : decode cX6_sumOf 35 = .ok (.iconst 1, 1) := by decide +kernel
theorem dX6_sumOf_36 : decode cX6_sumOf 36 = .ok (.if_icmp .ne 8, 3) := by decide +kernel
theorem dX6_sumOf_39 : decode cX6_sumOf 39 = .ok (.iload 5, 2) := by decide +kernel
theorem dX6_sumOf_41 : decode cX6_sumOf 41 = .ok (.goto 74, 3) := by decide +kernel
theorem dX6_sumOf_44 : decode cX6_sumOf 44 = .ok (.iload_n 2, 1) := by decide +kernel
theorem dX6_sumOf_45 : decode cX6_sumOf 45 = .ok (.iconst 2, 1) := by decide +kernel
theorem dX6_sumOf_46 : decode cX6_sumOf 46 = .ok (.if_icmp .ne 25, 3) := by decide +kernel
theorem dX6_sumOf_49 : decode cX6_sumOf 49 = .ok (.iload 5, 2) := by decide +kernel
theorem dX6_sumOf_51 : decode cX6_sumOf 51 = .ok (.ifCond .eq 16, 3) := by decide +kernel
theorem dX6_sumOf_54 : decode cX6_sumOf 54 = .ok (.aload_n 0, 1) := by decide +kernel
theorem dX6_sumOf_55 : decode cX6_sumOf 55 = .ok (.iload 4, 2) := by decide +kernel
theorem dX6_sumOf_57 : decode cX6_sumOf 57 = .ok (.invokevirtual 68, 3) := by decide +kernel
theorem dX6_sumOf_60 : decode cX6_sumOf 60 = .ok (.ifCond .ne 7, 3) := by decide +kernel
theorem dX6_sumOf_63 : decode cX6_sumOf 63 = .ok (.iconst 1, 1) := by decide +kernel
theorem dX6_sumOf_64 : decode cX6_sumOf 64 = .ok (.goto 51, 3) := by decide +kernel
theorem dX6_sumOf_67 : decode cX6_sumOf 67 = .ok (.iconst 0, 1) := by decide +kernel
theorem dX6_sumOf_68 : decode cX6_sumOf 68 = .ok (.goto 47, 3) := by decide +kernel
theorem dX6_sumOf_71 : decode cX6_sumOf 71 = .ok (.iload_n 2, 1) := by decide +kernel
theorem dX6_sumOf_72 : decode cX6_sumOf 72 = .ok (.iconst 3, 1) := by decide +kernel
theorem dX6_sumOf_73 : decode cX6_sumOf 73 = .ok (.if_icmp .ne 26, 3) := by decide +kernel
theorem dX6_sumOf_76 : decode cX6_sumOf 76 = .ok (.aload_n 0, 1) := by decide +kernel
theorem dX6_sumOf_77 : decode cX6_sumOf 77 = .ok (.iload 4, 2) := by decide +kernel
theorem dX6_sumOf_79 : decode cX6_sumOf 79 = .ok (.iconst 1, 1) := by decide +kernel
theorem dX6_sumOf_80 : decode cX6_sumOf 80 = .ok (.invokevirtual 65, 3) := by decide +kernel
theorem dX6_sumOf_83 : decode cX6_sumOf 83 = .ok (.iload_n 1, 1) := by decide +kernel
theorem dX6_sumOf_84 : decode cX6_sumOf 84 = .ok (.ishr, 1) := by decide +kernel
theorem dX6_sumOf_85 : decode cX6_sumOf 85 = .ok (.iconst 1, 1) := by decide +kernel
theorem dX6_sumOf_86 : decode cX6_sumOf 86 = .ok (.iand, 1) := by decide +kernel
theorem dX6_sumOf_87 : decode cX6_sumOf 87 = .ok (.iconst 1, 1) := by decide +kernel
theorem dX6_sumOf_88 : decode cX6_sumOf 88 = .ok (.if_icmp .ne 7, 3) := by decide +kernel
theorem dX6_sumOf_91 : decode cX6_sumOf 91 = .ok (.iconst 1, 1) := by decide +kernel
theorem dX6_sumOf_92 : decode cX6_sumOf 92 = .ok (.goto 23, 3) := by decide +kernel
theorem dX6_sumOf_95 : decode cX6_sumOf 95 = .ok (.iconst 0, 1) := by decide +kernel
theorem dX6_sumOf_96 : decode cX6_sumOf 96 = .ok (.goto 19, 3) := by decide +kernel
theorem dX6_sumOf_99 : decode cX6_sumOf 99 = .ok (.aload_n 0, 1) := by decide +kernel
theorem dX6_sumOf_100 : decode cX6_sumOf 100 = .ok (.iload 4, 2) := by decide +kernel
theorem dX6_sumOf_102 : decode cX6_sumOf 102 = .ok (.iconst 0, 1) := by decide +kernel
theorem dX6_sumOf_103 : decode cX6_sumOf 103 = .ok (.invokevirtual 65, 3) := by decide +kernel
theorem dX6_sumOf_106 : decode cX6_sumOf 106 = .ok (.iload_n 1, 1) := by decide +kernel
theorem dX6_sumOf_107 : decode cX6_sumOf 107 = .ok (.if_icmp .ne 7, 3) := by decide +kernel
theorem dX6_sumOf_110 : decode cX6_sumOf 110 = .ok (.iconst 1, 1) := by decide +kernel
theorem dX6_sumOf_111 : decode cX6_sumOf 111 = .ok (.goto 4, 3) := by decide +kernel
theorem dX6_sumOf_114 : decode cX6_sumOf 114 = .ok (.iconst 0, 1) := by decide +kernel
theorem dX6_sumOf_115 : decode cX6_sumOf 115 = .ok (.istore 6, 2) := by decide +kernel
theorem dX6_sumOf_117 : decode cX6_sumOf 117 = .ok (.iload_n 3, 1) := by decide +kernel
theorem dX6_sumOf_118 : decode cX6_sumOf 118 = .ok (.iload 6, 2) := by decide +kernel
theorem dX6_sumOf_120 : decode cX6_sumOf 120 = .ok (.ifCond .eq 7, 3) := by decide +kernel
theorem dX6_sumOf_123 : decode cX6_sumOf 123 = .ok (.iconst 1, 1) := by decide +kernel
theorem dX6_sumOf_124 : decode cX6_sumOf 124 = .ok (.goto 4, 3) := by decide +kernel
theorem dX6_sumOf_127 : decode cX6_sumOf 127 = .ok (.iconst 0, 1) := by decide +kernel
theorem dX6_sumOf_128 : decode cX6_sumOf 128 = .ok (.iadd, 1) := by decide +kernel
theorem dX6_sumOf_129 : decode cX6_sumOf 129 = .ok (.istore_n 3, 1) := by decide +kernel
theorem dX6_sumOf_130 : decode cX6_sumOf 130 = .ok (.iinc 4 1, 3) := by decide +kernel
theorem dX6_sumOf_133 : decode cX6_sumOf 133 = .ok (.goto (-128), 3) := by decide +kernel
theorem dX6_sumOf_136 : decode cX6_sumOf 136 = .ok (.iload_n 3, 1) := by decide +kernel
theorem dX6_sumOf_137 : decode cX6_sumOf 137 = .ok (.ireturn, 1) := by decide +kernel
theorem dX6_kind_0 : decode cX6_kind 0 = .ok (.iload_n 1, 1) := by decide +kernel
theorem dX6_kind_1 : decode cX6_kind 1 = .ok (.invokestatic 105, 3) := by decide +kernel
theorem dX6_kind_4 : decode cX6_kind 4 = .ok (.ifCond .ne 5, 3) := by decide +kernel
theorem dX6_kind_7 : decode cX6_kind 7 = .ok (.iconst (-1), 1) := by decide +kernel
theorem dX6_kind_8 : decode cX6_kind 8 = .ok (.ireturn, 1) := by decide +kernel
theorem dX6_kind_9 : decode cX6_kind 9 = .ok (.iload_n 2, 1) := by decide +kernel
theorem dX6_kind_10 : decode cX6_kind 10 = .ok (.ifCond .ne 16, 3) := by decide +kernel
theorem dX6_kind_13 : decode cX6_kind 13 = .ok (.aload_n 0, 1) := by decide +kernel
theorem dX6_kind_14 : decode cX6_kind 14 = .ok (.getfield 7, 3) := by decide +kernel
theorem dX6_kind_17 : decode cX6_kind 17 = .ok (.iload_n 1, 1) := by decide +kernel
theorem dX6_kind_18 : decode cX6_kind 18 = .ok (.iconst 0, 1) := by decide +kernel
theorem dX6_kind_19 : decode cX6_kind 19 = .ok (.invokestatic 47, 3) := by decide +kernel
theorem dX6_kind_22 : decode cX6_kind 22 = .ok (.iaload, 1) := by decide +kernel
theorem dX6_kind_23 : decode cX6_kind 23 = .ok (.goto 40, 3) := by decide +kernel
theorem dX6_kind_26 : decode cX6_kind 26 = .ok (.iload_n 2, 1) := by decide +kernel
theorem dX6_kind_27 : decode cX6_kind 27 = .ok (.iconst 1, 1) := by decide +kernel
theorem dX6_kind_28 : decode cX6_kind 28 = .ok (.iconst 4, 1) := by decide +kernel
theorem dX6_kind_29 : decode cX6_kind 29 = .ok (.invokestatic 51, 3) := by decide +kernel
theorem dX6_kind_32 : decode cX6_kind 32 = .ok (.ifCond .eq 12, 3) := by decide +kernel
theorem dX6_kind_35 : decode cX6_kind 35 = .ok (.aload_n 0, 1) := by decide +kernel
theorem dX6_kind_36 : decode cX6_kind 36 = .ok (.iload_n 1, 1) := by decide +kernel
theorem dX6_kind_37 : decode cX6_kind 37 = .ok (.iload_n 2, 1) := by decide +kernel
theorem dX6_kind_38 : decode cX6_kind 38 = .ok (.invokevirtual 163, 3) := by decide +kernel
theorem dX6_kind_41 : decode cX6_kind 41 = .ok (.goto 22, 3) := by decide +kernel
theorem dX6_kind_44 : decode cX6_kind 44 = .ok (.iload_n 2, 1) := by decide +kernel
theorem dX6_kind_45 : decode cX6_kind 45 = .ok (.iconst 5, 1) := by decide +kernel
theorem dX6_kind_46 : decode cX6_kind 46 = .ok (.if_icmp .ne 16, 3) := by decide +kernel
theorem dX6_kind_49 : decode cX6_kind 49 = .ok (.aload_n 0, 1) := by decide +kernel
theorem dX6_kind_50 : decode cX6_kind 50 = .ok (.getfield 7, 3) := by decide +kernel
theorem dX6_kind_53 : decode cX6_kind 53 = .ok (.iload_n 1, 1) := by decide +kernel
theorem dX6_kind_54 : decode cX6_kind 54 = .ok (.iconst 1, 1) := by decide +kernel
theorem dX6_kind_55 : decode cX6_kind 55 = .ok (.invokestatic 47, 3) := by decide +kernel
theorem dX6_kind_58 : decode cX6_kind 58 = .ok (.iaload, 1) := by decide +kernel
theorem dX6_kind_59 : decode cX6_kind 59 = .ok (.goto 4, 3) := by decide +kernel
theorem dX6_kind_62 : decode cX6_kind 62 = .ok (.iconst (-1), 1) := by decide +kernel
theorem dX6_kind_63 : decode cX6_kind 63 = .ok (.ireturn, 1) := by decide +kernel
theorem dX6_needs_0 : decode cX6_needs 0 = .ok (.iconst 0, 1) := by decide +kernel
theorem dX6_needs_1 : decode cX6_needs 1 = .ok (.istore_n 1, 1) := by decide +kernel
theorem dX6_needs_2 : decode cX6_needs 2 = .ok (.iconst 0, 1) := by decide +kernel
theorem dX6_needs_3 : decode cX6_needs 3 = .ok (.istore_n 2, 1) := by decide +kernel
theorem dX6_needs_4 : decode cX6_needs 4 = .ok (.iload_n 2, 1) := by decide +kernel
theorem dX6_needs_5 : decode cX6_needs 5 = .ok (.aload_n 0, 1) := by decide +kernel
theorem dX6_needs_6 : decode cX6_needs 6 = .ok (.getfield 7, 3) := by decide +kernel
theorem dX6_needs_9 : decode cX6_needs 9 = .ok (.iconst 1, 1) := by decide +kernel
theorem dX6_needs_10 : decode cX6_needs 10 = .ok (.iaload, 1) := by decide +kernel
theorem dX6_needs_11 : decode cX6_needs 11 = .ok (.if_icmp .ge 21, 3) := by decide +kernel
theorem dX6_needs_14 : decode cX6_needs 14 = .ok (.iload_n 1, 1) := by decide +kernel
theorem dX6_needs_15 : decode cX6_needs 15 = .ok (.aload_n 0, 1) := by decide +kernel
theorem dX6_needs_16 : decode cX6_needs 16 = .ok (.iload_n 2, 1) := by decide +kernel
theorem dX6_needs_17 : decode cX6_needs 17 = .ok (.iconst 1, 1) := by decide +kernel
theorem dX6_needs_18 : decode cX6_needs 18 = .ok (.invokevirtual 65, 3) := by decide +kernel
theorem dX6_needs_21 : decode cX6_needs 21 = .ok (.invokestatic 166, 3) := by decide +kernel
theorem dX6_needs_24 : decode cX6_needs 24 = .ok (.iadd, 1) := by decide +kernel
theorem dX6_needs_25 : decode cX6_needs 25 = .ok (.istore_n 1, 1) := by decide +kernel
theorem dX6_needs_26 : decode cX6_needs 26 = .ok (.iinc 2 1, 3) := by decide +kernel
theorem dX6_needs_29 : decode cX6_needs 29 = .ok (.goto (-25), 3) := by decide +kernel
theorem dX6_needs_32 : decode cX6_needs 32 = .ok (.iload_n 1, 1) := by decide +kernel
theorem dX6_needs_33 : decode cX6_needs 33 = .ok (.ireturn, 1) := by decide +kernel
theorem dX6_spoilt_0 : decode cX6_spoilt 0 = .ok (.iconst 0, 1) := by decide +kernel
theorem dX6_spoilt_1 : decode cX6_spoilt 1 = .ok (.istore_n 1, 1) := by decide +kernel
theorem dX6_spoilt_2 : decode cX6_spoilt 2 = .ok (.iconst 0, 1) := by decide +kernel
theorem dX6_spoilt_3 : decode cX6_spoilt 3 = .ok (.istore_n 2, 1) := by decide +kernel
theorem dX6_spoilt_4 : decode cX6_spoilt 4 = .ok (.iload_n 2, 1) := by decide +kernel
theorem dX6_spoilt_5 : decode cX6_spoilt 5 = .ok (.aload_n 0, 1) := by decide +kernel
theorem dX6_spoilt_6 : decode cX6_spoilt 6 = .ok (.getfield 7, 3) := by decide +kernel
theorem dX6_spoilt_9 : decode cX6_spoilt 9 = .ok (.iconst 1, 1) := by decide +kernel
theorem dX6_spoilt_10 : decode cX6_spoilt 10 = .ok (.iaload, 1) := by decide +kernel
theorem dX6_spoilt_11 : decode cX6_spoilt 11 = .ok (.if_icmp .ge 25, 3) := by decide +kernel
theorem dX6_spoilt_14 : decode cX6_spoilt 14 = .ok (.iload_n 1, 1) := by decide +kernel
theorem dX6_spoilt_15 : decode cX6_spoilt 15 = .ok (.aload_n 0, 1) := by decide +kernel
theorem dX6_spoilt_16 : decode cX6_spoilt 16 = .ok (.iload_n 2, 1) := by decide +kernel
theorem dX6_spoilt_17 : decode cX6_spoilt 17 = .ok (.invokevirtual 68, 3) := by decide +kernel
theorem dX6_spoilt_20 : decode cX6_spoilt 20 = .ok (.ifCond .ne 7, 3) := by decide +kernel
theorem dX6_spoilt_23 : decode cX6_spoilt 23 = .ok (.iconst 1, 1) := by decide +kernel
theorem dX6_spoilt_24 : decode cX6_spoilt 24 = .ok (.goto 4, 3) := by decide +kernel
theorem dX6_spoilt_27 : decode cX6_spoilt 27 = .ok (.iconst 0, 1) := by decide +kernel
theorem dX6_spoilt_28 : decode cX6_spoilt 28 = .ok (.iadd, 1) := by decide +kernel
theorem dX6_spoilt_29 : decode cX6_spoilt 29 = .ok (.istore_n 1, 1) := by decide +kernel
theorem dX6_spoilt_30 : decode cX6_spoilt 30 = .ok (.iinc 2 1, 3) := by decide +kernel
theorem dX6_spoilt_33 : decode cX6_spoilt 33 = .ok (.goto (-29), 3) := by decide +kernel
theorem dX6_spoilt_36 : decode cX6_spoilt 36 = .ok (.iload_n 1, 1) := by decide +kernel
theorem dX6_spoilt_37 : decode cX6_spoilt 37 = .ok (.ireturn, 1) := by decide +kernel
theorem dX6_stuck_0 : decode cX6_stuck 0 = .ok (.iconst 0, 1) := by decide +kernel
theorem dX6_stuck_1 : decode cX6_stuck 1 = .ok (.istore_n 1, 1) := by decide +kernel
theorem dX6_stuck_2 : decode cX6_stuck 2 = .ok (.iconst 0, 1) := by decide +kernel
theorem dX6_stuck_3 : decode cX6_stuck 3 = .ok (.istore_n 2, 1) := by decide +kernel
theorem dX6_stuck_4 : decode cX6_stuck 4 = .ok (.iload_n 2, 1) := by decide +kernel
theorem dX6_stuck_5 : decode cX6_stuck 5 = .ok (.aload_n 0, 1) := by decide +kernel
theorem dX6_stuck_6 : decode cX6_stuck 6 = .ok (.getfield 7, 3) := by decide +kernel
theorem dX6_stuck_9 : decode cX6_stuck 9 = .ok (.iconst 1, 1) := by decide +kernel
theorem dX6_stuck_10 : decode cX6_stuck 10 = .ok (.iaload, 1) := by decide +kernel
theorem dX6_stuck_11 : decode cX6_stuck 11 = .ok (.if_icmp .ge 34, 3) := by decide +kernel
theorem dX6_stuck_14 : decode cX6_stuck 14 = .ok (.iload_n 1, 1) := by decide +kernel
theorem dX6_stuck_15 : decode cX6_stuck 15 = .ok (.aload_n 0, 1) := by decide +kernel
theorem dX6_stuck_16 : decode cX6_stuck 16 = .ok (.iload_n 2, 1) := by decide +kernel
theorem dX6_stuck_17 : decode cX6_stuck 17 = .ok (.iconst 1, 1) := by decide +kernel
theorem dX6_stuck_18 : decode cX6_stuck 18 = .ok (.invokevirtual 65, 3) := by decide +kernel
theorem dX6_stuck_21 : decode cX6_stuck 21 = .ok (.ifCond .le 15, 3) := by decide +kernel
theorem dX6_stuck_24 : decode cX6_stuck 24 = .ok (.aload_n 0, 1) := by decide +kernel
theorem dX6_stuck_25 : decode cX6_stuck 25 = .ok (.iload_n 2, 1) := by decide +kernel
theorem dX6_stuck_26 : decode cX6_stuck 26 = .ok (.invokevirtual 151, 3) := by decide +kernel
theorem dX6_stuck_29 : decode cX6_stuck 29 = .ok (.ifCond .ne 7, 3) := by decide +kernel
theorem dX6_stuck_32 : decode cX6_stuck 32 = .ok (.iconst 1, 1) := by decide +kernel
theorem dX6_stuck_33 : decode cX6_stuck 33 = .ok (.goto 4, 3) := by decide +kernel
theorem dX6_stuck_36 : decode cX6_stuck 36 = .ok (.iconst 0, 1) := by decide +kernel
theorem dX6_stuck_37 : decode cX6_stuck 37 = .ok (.iadd, 1) := by decide +kernel
theorem dX6_stuck_38 : decode cX6_stuck 38 = .ok (.istore_n 1, 1) := by decide +kernel
theorem dX6_stuck_39 : decode cX6_stuck 39 = .ok (.iinc 2 1, 3) := by decide +kernel
theorem dX6_stuck_42 : decode cX6_stuck 42 = .ok (.goto (-38), 3) := by decide +kernel
theorem dX6_stuck_45 : decode cX6_stuck 45 = .ok (.iload_n 1, 1) := by decide +kernel
theorem dX6_stuck_46 : decode cX6_stuck 46 = .ok (.ireturn, 1) := by decide +kernel
theorem dX6_count_0 : decode cX6_count 0 = .ok (.iload_n 1, 1) := by decide +kernel
theorem dX6_count_1 : decode cX6_count 1 = .ok (.tableswitch 155 0 15 #[79, 79, 86, 91, 98, 110, 115, 115, 115, 115, 127, 132, 132, 132, 145, 150], 79) := by decide +kernel
theorem dX6_count_80 : decode cX6_count 80 = .ok (.aload_n 0, 1) := by decide +kernel
theorem dX6_count_81 : decode cX6_count 81 = .ok (.getfield 7, 3) := by decide +kernel
theorem dX6_count_84 : decode cX6_count 84 = .ok (.iload_n 1, 1) := by decide +kernel
theorem dX6_count_85 : decode cX6_count 85 = .ok (.iaload, 1) := by decide +kernel
theorem dX6_count_86 : decode cX6_count 86 = .ok (.ireturn, 1) := by decide +kernel
theorem dX6_count_87 : decode cX6_count 87 = .ok (.aload_n 0, 1) := by decide +kernel
theorem dX6_count_88 : decode cX6_count 88 = .ok (.invokevirtual 169, 3) := by decide +kernel
theorem dX6_count_91 : decode cX6_count 91 = .ok (.ireturn, 1) := by decide +kernel
theorem dX6_count_92 : decode cX6_count 92 = .ok (.aload_n 0, 1) := by decide +kernel
theorem dX6_count_93 : decode cX6_count 93 = .ok (.getfield 7, 3) := by decide +kernel
theorem dX6_count_96 : decode cX6_count 96 = .ok (.iconst 2, 1) := by decide +kernel
theorem dX6_count_97 : decode cX6_count 97 = .ok (.iaload, 1) := by decide +kernel
theorem dX6_count_98 : decode cX6_count 98 = .ok (.ireturn, 1) := by decide +kernel
theorem dX6_count_99 : decode cX6_count 99 = .ok (.aload_n 0, 1) := by decide +kernel
theorem dX6_count_100 : decode cX6_count 100 = .ok (.getfield 7, 3) := by decide +kernel
theorem dX6_count_103 : decode cX6_count 103 = .ok (.iconst 1, 1) := by decide +kernel
theorem dX6_count_104 : decode cX6_count 104 = .ok (.iaload, 1) := by decide +kernel
theorem dX6_count_105 : decode cX6_count 105 = .ok (.aload_n 0, 1) := by decide +kernel
theorem dX6_count_106 : decode cX6_count 106 = .ok (.invokevirtual 172, 3) := by decide +kernel
theorem dX6_count_109 : decode cX6_count 109 = .ok (.isub, 1) := by decide +kernel
theorem dX6_count_110 : decode cX6_count 110 = .ok (.ireturn, 1) := by decide +kernel
theorem dX6_count_111 : decode cX6_count 111 = .ok (.aload_n 0, 1) := by decide +kernel
theorem dX6_count_112 : decode cX6_count 112 = .ok (.invokevirtual 172, 3) := by decide +kernel
theorem dX6_count_115 : decode cX6_count 115 = .ok (.ireturn, 1) := by decide +kernel
theorem dX6_count_116 : decode cX6_count 116 = .ok (.aload_n 0, 1) := by decide +kernel
theorem dX6_count_117 : decode cX6_count 117 = .ok (.getfield 7, 3) := by decide +kernel
theorem dX6_count_120 : decode cX6_count 120 = .ok (.iconst 3, 1) := by decide +kernel
theorem dX6_count_121 : decode cX6_count 121 = .ok (.iload_n 1, 1) := by decide +kernel
theorem dX6_count_122 : decode cX6_count 122 = .ok (.iadd, 1) := by decide +kernel
theorem dX6_count_123 : decode cX6_count 123 = .ok (.bipush 6, 2) := by decide +kernel
theorem dX6_count_125 : decode cX6_count 125 = .ok (.isub, 1) := by decide +kernel
theorem dX6_count_126 : decode cX6_count 126 = .ok (.iaload, 1) := by decide +kernel
theorem dX6_count_127 : decode cX6_count 127 = .ok (.ireturn, 1) := by decide +kernel
theorem dX6_count_128 : decode cX6_count 128 = .ok (.aload_n 0, 1) := by decide +kernel
theorem dX6_count_129 : decode cX6_count 129 = .ok (.invokevirtual 175, 3) := by decide +kernel
theorem dX6_count_132 : decode cX6_count 132 = .ok (.ireturn, 1) := by decide +kernel
theorem dX6_count_133 : decode cX6_count 133 = .ok (.aload_n 0, 1) := by decide +kernel
theorem dX6_count_134 : decode cX6_count 134 = .ok (.getfield 7, 3) := by decide +kernel
theorem dX6_count_137 : decode cX6_count 137 = .ok (.bipush 7, 2) := by decide +kernel
theorem dX6_count_139 : decode cX6_count 139 = .ok (.iload_n 1, 1) := by decide +kernel
theorem dX6_count_140 : decode cX6_count 140 = .ok (.iadd, 1) := by decide +kernel
theorem dX6_count_141 : decode cX6_count 141 = .ok (.bipush 11, 2) := by decide +kernel
theorem dX6_count_143 : decode cX6_count 143 = .ok (.isub, 1) := by decide +kernel
theorem dX6_count_144 : decode cX6_count 144 = .ok (.iaload, 1) := by decide +kernel
theorem dX6_count_145 : decode cX6_count 145 = .ok (.ireturn, 1) := by decide +kernel
theorem dX6_count_146 : decode cX6_count 146 = .ok (.aload_n 0, 1) := by decide +kernel
theorem dX6_count_147 : decode cX6_count 147 = .ok (.getfield 130, 3) := by decide +kernel
theorem dX6_count_150 : decode cX6_count 150 = .ok (.ireturn, 1) := by decide +kernel
theorem dX6_count_151 : decode cX6_count 151 = .ok (.aload_n 0, 1) := by decide +kernel
theorem dX6_count_152 : decode cX6_count 152 = .ok (.getfield 62, 3) := by decide +kernel
theorem dX6_count_155 : decode cX6_count 155 = .ok (.ireturn, 1) := by decide +kernel
theorem dX6_count_156 : decode cX6_count 156 = .ok (.iconst (-1), 1) := by decide +kernel
theorem dX6_count_157 : decode cX6_count 157 = .ok (.ireturn, 1) := by decide +kernel
theorem dX6_freshness_0 : decode cX6_freshness 0 = .ok (.iconst 0, 1) := by decide +kernel
theorem dX6_freshness_1 : decode cX6_freshness 1 = .ok (.istore_n 1, 1) := by decide +kernel
theorem dX6_freshness_2 : decode cX6_freshness 2 = .ok (.iconst 0, 1) := by decide +kernel
theorem dX6_freshness_3 : decode cX6_freshness 3 = .ok (.istore_n 2, 1) := by decide +kernel
theorem dX6_freshness_4 : decode cX6_freshness 4 = .ok (.iload_n 2, 1) := by decide +kernel
theorem dX6_freshness_5 : decode cX6_freshness 5 = .ok (.aload_n 0, 1) := by decide +kernel
theorem dX6_freshness_6 : decode cX6_freshness 6 = .ok (.getfield 7, 3) := by decide +kernel
theorem dX6_freshness_9 : decode cX6_freshness 9 = .ok (.iconst 1, 1) := by decide +kernel
theorem dX6_freshness_10 : decode cX6_freshness 10 = .ok (.iaload, 1) := by decide +kernel
theorem dX6_freshness_11 : decode cX6_freshness 11 = .ok (.if_icmp .ge 17, 3) := by decide +kernel
theorem dX6_freshness_14 : decode cX6_freshness 14 = .ok (.iload_n 1, 1) := by decide +kernel
theorem dX6_freshness_15 : decode cX6_freshness 15 = .ok (.aload_n 0, 1) := by decide +kernel
theorem dX6_freshness_16 : decode cX6_freshness 16 = .ok (.iload_n 2, 1) := by decide +kernel
theorem dX6_freshness_17 : decode cX6_freshness 17 = .ok (.invokevirtual 68, 3) := by decide +kernel
theorem dX6_freshness_20 : decode cX6_freshness 20 = .ok (.iadd, 1) := by decide +kernel
theorem dX6_freshness_21 : decode cX6_freshness 21 = .ok (.istore_n 1, 1) := by decide +kernel
theorem dX6_freshness_22 : decode cX6_freshness 22 = .ok (.iinc 2 1, 3) := by decide +kernel
theorem dX6_freshness_25 : decode cX6_freshness 25 = .ok (.goto (-21), 3) := by decide +kernel
theorem dX6_freshness_28 : decode cX6_freshness 28 = .ok (.aload_n 0, 1) := by decide +kernel
theorem dX6_freshness_29 : decode cX6_freshness 29 = .ok (.getfield 7, 3) := by decide +kernel
theorem dX6_freshness_32 : decode cX6_freshness 32 = .ok (.iconst 1, 1) := by decide +kernel
theorem dX6_freshness_33 : decode cX6_freshness 33 = .ok (.iaload, 1) := by decide +kernel
theorem dX6_freshness_34 : decode cX6_freshness 34 = .ok (.aload_n 0, 1) := by decide +kernel
theorem dX6_freshness_35 : decode cX6_freshness 35 = .ok (.invokevirtual 172, 3) := by decide +kernel
theorem dX6_freshness_38 : decode cX6_freshness 38 = .ok (.isub, 1) := by decide +kernel
theorem dX6_freshness_39 : decode cX6_freshness 39 = .ok (.istore_n 2, 1) := by decide +kernel
theorem dX6_freshness_40 : decode cX6_freshness 40 = .ok (.iload_n 2, 1) := by decide +kernel
theorem dX6_freshness_41 : decode cX6_freshness 41 = .ok (.ifCond .ne 7, 3) := by decide +kernel
theorem dX6_freshness_44 : decode cX6_freshness 44 = .ok (.dconst 0, 1) := by decide +kernel
theorem dX6_freshness_45 : decode cX6_freshness 45 = .ok (.goto 8, 3) := by decide +kernel
theorem dX6_freshness_48 : decode cX6_freshness 48 = .ok (.iload_n 1, 1) := by decide +kernel
theorem dX6_freshness_49 : decode cX6_freshness 49 = .ok (.i2d, 1) := by decide +kernel
theorem dX6_freshness_50 : decode cX6_freshness 50 = .ok (.iload_n 2, 1) := by decide +kernel
theorem dX6_freshness_51 : decode cX6_freshness 51 = .ok (.i2d, 1) := by decide +kernel
theorem dX6_freshness_52 : decode cX6_freshness 52 = .ok (.ddiv, 1) := by decide +kernel
theorem dX6_freshness_53 : decode cX6_freshness 53 = .ok (.dreturn, 1) := by decide +kernel
theorem dX6_ifCircle_0 : decode cX6_ifCircle 0 = .ok (.iload_n 1, 1) := by decide +kernel
theorem dX6_ifCircle_1 : decode cX6_ifCircle 1 = .ok (.iconst 2, 1) := by decide +kernel
theorem dX6_ifCircle_2 : decode cX6_ifCircle 2 = .ok (.bipush 7, 2) := by decide +kernel
theorem dX6_ifCircle_4 : decode cX6_ifCircle 4 = .ok (.invokestatic 51, 3) := by decide +kernel
theorem dX6_ifCircle_7 : decode cX6_ifCircle 7 = .ok (.ifCond .eq 11, 3) := by decide +kernel
theorem dX6_ifCircle_10 : decode cX6_ifCircle 10 = .ok (.aload_n 0, 1) := by decide +kernel
theorem dX6_ifCircle_11 : decode cX6_ifCircle 11 = .ok (.iload_n 1, 1) := by decide +kernel
theorem dX6_ifCircle_12 : decode cX6_ifCircle 12 = .ok (.invokevirtual 160, 3) := by decide +kernel
theorem dX6_ifCircle_15 : decode cX6_ifCircle 15 = .ok (.goto 4, 3) := by decide +kernel
theorem dX6_ifCircle_18 : decode cX6_ifCircle 18 = .ok (.iconst (-1), 1) := by decide +kernel
theorem dX6_ifCircle_19 : decode cX6_ifCircle 19 = .ok (.ireturn, 1) := by decide +kernel
theorem dX6_ifDays_0 : decode cX6_ifDays 0 = .ok (.iload_n 1, 1) := by decide +kernel
theorem dX6_ifDays_1 : decode cX6_ifDays 1 = .ok (.iconst 1, 1) := by decide +kernel
theorem dX6_ifDays_2 : decode cX6_ifDays 2 = .ok (.bipush 20, 2) := by decide +kernel
theorem dX6_ifDays_4 : decode cX6_ifDays 4 = .ok (.invokestatic 51, 3) := by decide +kernel
theorem dX6_ifDays_7 : decode cX6_ifDays 7 = .ok (.ifCond .eq 12, 3) := by decide +kernel
theorem dX6_ifDays_10 : decode cX6_ifDays 10 = .ok (.iload_n 2, 1) := by decide +kernel
theorem dX6_ifDays_11 : decode cX6_ifDays 11 = .ok (.iconst 0, 1) := by decide +kernel
theorem dX6_ifDays_12 : decode cX6_ifDays 12 = .ok (.iconst 2, 1) := by decide +kernel
theorem dX6_ifDays_13 : decode cX6_ifDays 13 = .ok (.invokestatic 51, 3) := by decide +kernel
theorem dX6_ifDays_16 : decode cX6_ifDays 16 = .ok (.ifCond .ne 5, 3) := by decide +kernel
theorem dX6_ifDays_19 : decode cX6_ifDays 19 = .ok (.iconst (-1), 1) := by decide +kernel
theorem dX6_ifDays_20 : decode cX6_ifDays 20 = .ok (.ireturn, 1) := by decide +kernel
theorem dX6_ifDays_21 : decode cX6_ifDays 21 = .ok (.aload_n 0, 1) := by decide +kernel
theorem dX6_ifDays_22 : decode cX6_ifDays 22 = .ok (.invokevirtual 178, 3) := by decide +kernel
theorem dX6_ifDays_25 : decode cX6_ifDays 25 = .ok (.aload_n 0, 1) := by decide +kernel
theorem dX6_ifDays_26 : decode cX6_ifDays 26 = .ok (.getfield 7, 3) := by decide +kernel
theorem dX6_ifDays_29 : decode cX6_ifDays 29 = .ok (.iconst 2, 1) := by decide +kernel
theorem dX6_ifDays_30 : decode cX6_ifDays 30 = .ok (.iaload, 1) := by decide +kernel
theorem dX6_ifDays_31 : decode cX6_ifDays 31 = .ok (.istore_n 3, 1) := by decide +kernel
theorem dX6_ifDays_32 : decode cX6_ifDays 32 = .ok (.aload_n 0, 1) := by decide +kernel
theorem dX6_ifDays_33 : decode cX6_ifDays 33 = .ok (.getfield 7, 3) := by decide +kernel
theorem dX6_ifDays_36 : decode cX6_ifDays 36 = .ok (.iconst 3, 1) := by decide +kernel
theorem dX6_ifDays_37 : decode cX6_ifDays 37 = .ok (.iaload, 1) := by decide +kernel
theorem dX6_ifDays_38 : decode cX6_ifDays 38 = .ok (.istore 4, 2) := by decide +kernel
theorem dX6_ifDays_40 : decode cX6_ifDays 40 = .ok (.iconst 0, 1) := by decide +kernel
theorem dX6_ifDays_41 : decode cX6_ifDays 41 = .ok (.istore 5, 2) := by decide +kernel
theorem dX6_ifDays_43 : decode cX6_ifDays 43 = .ok (.iload 5, 2) := by decide +kernel
theorem dX6_ifDays_45 : decode cX6_ifDays 45 = .ok (.iload_n 1, 1) := by decide +kernel
theorem dX6_ifDays_46 : decode cX6_ifDays 46 = .ok (.if_icmp .ge 21, 3) := by decide +kernel
theorem dX6_ifDays_49 : decode cX6_ifDays 49 = .ok (.aload_n 0, 1) := by decide +kernel
theorem dX6_ifDays_50 : decode cX6_ifDays 50 = .ok (.invokevirtual 123, 3) := by decide +kernel
theorem dX6_ifDays_53 : decode cX6_ifDays 53 = .ok (.istore 6, 2) := by decide +kernel
theorem dX6_ifDays_55 : decode cX6_ifDays 55 = .ok (.aload_n 0, 1) := by decide +kernel
theorem dX6_ifDays_56 : decode cX6_ifDays 56 = .ok (.invokevirtual 127, 3) := by decide +kernel
theorem dX6_ifDays_59 : decode cX6_ifDays 59 = .ok (.istore 7, 2) := by decide +kernel
theorem dX6_ifDays_61 : decode cX6_ifDays 61 = .ok (.iinc 5 1, 3) := by decide +kernel
theorem dX6_ifDays_64 : decode cX6_ifDays 64 = .ok (.goto (-21), 3) := by decide +kernel
theorem dX6_ifDays_67 : decode cX6_ifDays 67 = .ok (.iload_n 2, 1) := by decide +kernel
theorem dX6_ifDays_68 : decode cX6_ifDays 68 = .ok (.ifCond .ne 14, 3) := by decide +kernel
theorem dX6_ifDays_71 : decode cX6_ifDays 71 = .ok (.aload_n 0, 1) := by decide +kernel
theorem dX6_ifDays_72 : decode cX6_ifDays 72 = .ok (.getfield 7, 3) := by decide +kernel
theorem dX6_ifDays_75 : decode cX6_ifDays 75 = .ok (.iconst 2, 1) := by decide +kernel
theorem dX6_ifDays_76 : decode cX6_ifDays 76 = .ok (.iaload, 1) := by decide +kernel
theorem dX6_ifDays_77 : decode cX6_ifDays 77 = .ok (.iload_n 3, 1) := by decide +kernel
theorem dX6_ifDays_78 : decode cX6_ifDays 78 = .ok (.isub, 1) := by decide +kernel
theorem dX6_ifDays_79 : decode cX6_ifDays 79 = .ok (.goto 24, 3) := by decide +kernel
theorem dX6_ifDays_82 : decode cX6_ifDays 82 = .ok (.iload_n 2, 1) := by decide +kernel
theorem dX6_ifDays_83 : decode cX6_ifDays 83 = .ok (.iconst 1, 1) := by decide +kernel
theorem dX6_ifDays_84 : decode cX6_ifDays 84 = .ok (.if_icmp .ne 15, 3) := by decide +kernel
theorem dX6_ifDays_87 : decode cX6_ifDays 87 = .ok (.aload_n 0, 1) := by decide +kernel
theorem dX6_ifDays_88 : decode cX6_ifDays 88 = .ok (.getfield 7, 3) := by decide +kernel
theorem dX6_ifDays_91 : decode cX6_ifDays 91 = .ok (.iconst 3, 1) := by decide +kernel
theorem dX6_ifDays_92 : decode cX6_ifDays 92 = .ok (.iaload, 1) := by decide +kernel
theorem dX6_ifDays_93 : decode cX6_ifDays 93 = .ok (.iload 4, 2) := by decide +kernel
theorem dX6_ifDays_95 : decode cX6_ifDays 95 = .ok (.isub, 1) := by decide +kernel
theorem dX6_ifDays_96 : decode cX6_ifDays 96 = .ok (.goto 7, 3) := by decide +kernel
theorem dX6_ifDays_99 : decode cX6_ifDays 99 = .ok (.aload_n 0, 1) := by decide +kernel
theorem dX6_ifDays_100 : decode cX6_ifDays 100 = .ok (.invokevirtual 169, 3) := by decide +kernel
theorem dX6_ifDays_103 : decode cX6_ifDays 103 = .ok (.istore 5, 2) := by decide +kernel
theorem dX6_ifDays_105 : decode cX6_ifDays 105 = .ok (.aload_n 0, 1) := by decide +kernel
theorem dX6_ifDays_106 : decode cX6_ifDays 106 = .ok (.invokevirtual 181, 3) := by decide +kernel
theorem dX6_ifDays_109 : decode cX6_ifDays 109 = .ok (.iload 5, 2) := by decide +kernel
theorem dX6_ifDays_111 : decode cX6_ifDays 111 = .ok (.ireturn, 1) := by decide +kernel
theorem dX6_bestWant_0 : decode cX6_bestWant 0 = .ok (.aload_n 0, 1) := by decide +kernel
theorem dX6_bestWant_1 : decode cX6_bestWant 1 = .ok (.iload_n 1, 1) := by decide +kernel
theorem dX6_bestWant_2 : decode cX6_bestWant 2 = .ok (.invokevirtual 55, 3) := by decide +kernel
theorem dX6_bestWant_5 : decode cX6_bestWant 5 = .ok (.ifCond .ne 5, 3) := by decide +kernel
theorem dX6_bestWant_8 : decode cX6_bestWant 8 = .ok (.iconst (-1), 1) := by decide +kernel
theorem dX6_bestWant_9 : decode cX6_bestWant 9 = .ok (.ireturn, 1) := by decide +kernel
theorem dX6_bestWant_10 : decode cX6_bestWant 10 = .ok (.aload_n 0, 1) := by decide +kernel
theorem dX6_bestWant_11 : decode cX6_bestWant 11 = .ok (.iload_n 1, 1) := by decide +kernel
theorem dX6_bestWant_12 : decode cX6_bestWant 12 = .ok (.iconst 1, 1) := by decide +kernel
theorem dX6_bestWant_13 : decode cX6_bestWant 13 = .ok (.invokevirtual 65, 3) := by decide +kernel
theorem dX6_bestWant_16 : decode cX6_bestWant 16 = .ok (.istore_n 2, 1) := by decide +kernel
theorem dX6_bestWant_17 : decode cX6_bestWant 17 = .ok (.bipush (-4), 2) := by decide +kernel
theorem dX6_bestWant_19 : decode cX6_bestWant 19 = .ok (.istore_n 3, 1) := by decide +kernel
theorem dX6_bestWant_20 : decode cX6_bestWant 20 = .ok (.iconst (-1), 1) := by decide +kernel
theorem dX6_bestWant_21 : decode cX6_bestWant 21 = .ok (.istore 4, 2) := by decide +kernel
theorem dX6_bestWant_23 : decode cX6_bestWant 23 = .ok (.iconst 0, 1) := by decide +kernel
theorem dX6_bestWant_24 : decode cX6_bestWant 24 = .ok (.istore 5, 2) := by decide +kernel
theorem dX6_bestWant_26 : decode cX6_bestWant 26 = .ok (.iload 5, 2) := by decide +kernel
theorem dX6_bestWant_28 : decode cX6_bestWant 28 = .ok (.bipush 6, 2) := by decide +kernel
theorem dX6_bestWant_30 : decode cX6_bestWant 30 = .ok (.if_icmp .ge 77, 3) := by decide +kernel
theorem dX6_bestWant_33 : decode cX6_bestWant 33 = .ok (.iload_n 2, 1) := by decide +kernel
theorem dX6_bestWant_34 : decode cX6_bestWant 34 = .ok (.iload 5, 2) := by decide +kernel
theorem dX6_bestWant_36 : decode cX6_bestWant 36 = .ok (.ishr, 1) := by decide +kernel
theorem dX6_bestWant_37 : decode cX6_bestWant 37 = .ok (.iconst 1, 1) := by decide +kernel
theorem dX6_bestWant_38 : decode cX6_bestWant 38 = .ok (.iand, 1) := by decide +kernel
theorem dX6_bestWant_39 : decode cX6_bestWant 39 = .ok (.ifCond .ne 62, 3) := by decide +kernel
theorem dX6_bestWant_42 : decode cX6_bestWant 42 = .ok (.aload_n 0, 1) := by decide +kernel
theorem dX6_bestWant_43 : decode cX6_bestWant 43 = .ok (.getfield 7, 3) := by decide +kernel
theorem dX6_bestWant_46 : decode cX6_bestWant 46 = .ok (.iload_n 1, 1) := by decide +kernel
theorem dX6_bestWant_47 : decode cX6_bestWant 47 = .ok (.iconst 1, 1) := by decide +kernel
theorem dX6_bestWant_48 : decode cX6_bestWant 48 = .ok (.invokestatic 59, 3) := by decide +kernel
theorem dX6_bestWant_51 : decode cX6_bestWant 51 = .ok (.iload_n 2, 1) := by decide +kernel
theorem dX6_bestWant_52 : decode cX6_bestWant 52 = .ok (.iconst 1, 1) := by decide +kernel
theorem dX6_bestWant_53 : decode cX6_bestWant 53 = .ok (.iload 5, 2) := by decide +kernel
theorem dX6_bestWant_55 : decode cX6_bestWant 55 = .ok (.ishl, 1) := by decide +kernel
theorem dX6_bestWant_56 : decode cX6_bestWant 56 = .ok (.ior, 1) := by decide +kernel
theorem dX6_bestWant_57 : decode cX6_bestWant 57 = .ok (.iastore, 1) := by decide +kernel
theorem dX6_bestWant_58 : decode cX6_bestWant 58 = .ok (.aload_n 0, 1) := by decide +kernel
theorem dX6_bestWant_59 : decode cX6_bestWant 59 = .ok (.aload_n 0, 1) := by decide +kernel
theorem dX6_bestWant_60 : decode cX6_bestWant 60 = .ok (.getfield 7, 3) := by decide +kernel
theorem dX6_bestWant_63 : decode cX6_bestWant 63 = .ok (.bipush 7, 2) := by decide +kernel
theorem dX6_bestWant_65 : decode cX6_bestWant 65 = .ok (.iaload, 1) := by decide +kernel
theorem dX6_bestWant_66 : decode cX6_bestWant 66 = .ok (.invokevirtual 160, 3) := by decide +kernel
theorem dX6_bestWant_69 : decode cX6_bestWant 69 = .ok (.istore 6, 2) := by decide +kernel
theorem dX6_bestWant_71 : decode cX6_bestWant 71 = .ok (.iload 6, 2) := by decide +kernel
theorem dX6_bestWant_73 : decode cX6_bestWant 73 = .ok (.iload 4, 2) := by decide +kernel
theorem dX6_bestWant_75 : decode cX6_bestWant 75 = .ok (.if_icmp .le 8, 3) := by decide +kernel
theorem dX6_bestWant_78 : decode cX6_bestWant 78 = .ok (.iload 5, 2) := by decide +kernel
theorem dX6_bestWant_80 : decode cX6_bestWant 80 = .ok (.goto 4, 3) := by decide +kernel
theorem dX6_bestWant_83 : decode cX6_bestWant 83 = .ok (.iload_n 3, 1) := by decide +kernel
theorem dX6_bestWant_84 : decode cX6_bestWant 84 = .ok (.istore_n 3, 1) := by decide +kernel
theorem dX6_bestWant_85 : decode cX6_bestWant 85 = .ok (.iload 6, 2) := by decide +kernel
theorem dX6_bestWant_87 : decode cX6_bestWant 87 = .ok (.iload 4, 2) := by decide +kernel
theorem dX6_bestWant_89 : decode cX6_bestWant 89 = .ok (.if_icmp .le 8, 3) := by decide +kernel
theorem dX6_bestWant_92 : decode cX6_bestWant 92 = .ok (.iload 6, 2) := by decide +kernel
theorem dX6_bestWant_94 : decode cX6_bestWant 94 = .ok (.goto 5, 3) := by decide +kernel
theorem dX6_bestWant_97 : decode cX6_bestWant 97 = .ok (.iload 4, 2) := by decide +kernel
theorem dX6_bestWant_99 : decode cX6_bestWant 99 = .ok (.istore 4, 2) := by decide +kernel
theorem dX6_bestWant_101 : decode cX6_bestWant 101 = .ok (.iinc 5 1, 3) := by decide +kernel
theorem dX6_bestWant_104 : decode cX6_bestWant 104 = .ok (.goto (-78), 3) := by decide +kernel
theorem dX6_bestWant_107 : decode cX6_bestWant 107 = .ok (.aload_n 0, 1) := by decide +kernel
theorem dX6_bestWant_108 : decode cX6_bestWant 108 = .ok (.getfield 7, 3) := by decide +kernel
theorem dX6_bestWant_111 : decode cX6_bestWant 111 = .ok (.iload_n 1, 1) := by decide +kernel
theorem dX6_bestWant_112 : decode cX6_bestWant 112 = .ok (.iconst 1, 1) := by decide +kernel
theorem dX6_bestWant_113 : decode cX6_bestWant 113 = .ok (.invokestatic 59, 3) := by decide +kernel
theorem dX6_bestWant_116 : decode cX6_bestWant 116 = .ok (.iload_n 2, 1) := by decide +kernel
theorem dX6_bestWant_117 : decode cX6_bestWant 117 = .ok (.iastore, 1) := by decide +kernel
theorem dX6_bestWant_118 : decode cX6_bestWant 118 = .ok (.iload_n 3, 1) := by decide +kernel
theorem dX6_bestWant_119 : decode cX6_bestWant 119 = .ok (.ireturn, 1) := by decide +kernel
theorem dX6_undo_0 : decode cX6_undo 0 = .ok (.aload_n 0, 1) := by decide +kernel
theorem dX6_undo_1 : decode cX6_undo 1 = .ok (.getfield 62, 3) := by decide +kernel
theorem dX6_undo_4 : decode cX6_undo 4 = .ok (.ifCond .ne 6, 3) := by decide +kernel
theorem dX6_undo_7 : decode cX6_undo 7 = .ok (.bipush (-2), 2) := by decide +kernel
theorem dX6_undo_9 : decode cX6_undo 9 = .ok (.ireturn, 1) := by decide +kernel
theorem dX6_undo_10 : decode cX6_undo 10 = .ok (.aload_n 0, 1) := by decide +kernel
theorem dX6_undo_11 : decode cX6_undo 11 = .ok (.dup, 1) := by decide +kernel
theorem dX6_undo_12 : decode cX6_undo 12 = .ok (.getfield 62, 3) := by decide +kernel
theorem dX6_undo_15 : decode cX6_undo 15 = .ok (.iconst 1, 1) := by decide +kernel
theorem dX6_undo_16 : decode cX6_undo 16 = .ok (.isub, 1) := by decide +kernel
theorem dX6_undo_17 : decode cX6_undo 17 = .ok (.putfield 62, 3) := by decide +kernel
theorem dX6_undo_20 : decode cX6_undo 20 = .ok (.iconst 0, 1) := by decide +kernel
theorem dX6_undo_21 : decode cX6_undo 21 = .ok (.istore_n 1, 1) := by decide +kernel
theorem dX6_undo_22 : decode cX6_undo 22 = .ok (.iload_n 1, 1) := by decide +kernel
theorem dX6_undo_23 : decode cX6_undo 23 = .ok (.bipush 57, 2) := by decide +kernel
theorem dX6_undo_25 : decode cX6_undo 25 = .ok (.if_icmp .ge 29, 3) := by decide +kernel
theorem dX6_undo_28 : decode cX6_undo 28 = .ok (.aload_n 0, 1) := by decide +kernel
theorem dX6_undo_29 : decode cX6_undo 29 = .ok (.getfield 7, 3) := by decide +kernel
theorem dX6_undo_32 : decode cX6_undo 32 = .ok (.iload_n 1, 1) := by decide +kernel
theorem dX6_undo_33 : decode cX6_undo 33 = .ok (.aload_n 0, 1) := by decide +kernel
theorem dX6_undo_34 : decode cX6_undo 34 = .ok (.getfield 16, 3) := by decide +kernel
theorem dX6_undo_37 : decode cX6_undo 37 = .ok (.bipush 57, 2) := by decide +kernel
theorem dX6_undo_39 : decode cX6_undo 39 = .ok (.aload_n 0, 1) := by decide +kernel
theorem dX6_undo_40 : decode cX6_undo 40 = .ok (.getfield 62, 3) := by decide +kernel
theorem dX6_undo_43 : decode cX6_undo 43 = .ok (.imul, 1) := by decide +kernel
theorem dX6_undo_44 : decode cX6_undo 44 = .ok (.iload_n 1, 1) := by decide +kernel
theorem dX6_undo_45 : decode cX6_undo 45 = .ok (.iadd, 1) := by decide +kernel
theorem dX6_undo_46 : decode cX6_undo 46 = .ok (.iaload, 1) := by decide +kernel
theorem dX6_undo_47 : decode cX6_undo 47 = .ok (.iastore, 1) := by decide +kernel
theorem dX6_undo_48 : decode cX6_undo 48 = .ok (.iinc 1 1, 3) := by decide +kernel
theorem dX6_undo_51 : decode cX6_undo 51 = .ok (.goto (-29), 3) := by decide +kernel
theorem dX6_undo_54 : decode cX6_undo 54 = .ok (.aload_n 0, 1) := by decide +kernel
theorem dX6_undo_55 : decode cX6_undo 55 = .ok (.getfield 62, 3) := by decide +kernel
theorem dX6_undo_58 : decode cX6_undo 58 = .ok (.ireturn, 1) := by decide +kernel
theorem dX6_save_0 : decode cX6_save 0 = .ok (.iconst 0, 1) := by decide +kernel
theorem dX6_save_1 : decode cX6_save 1 = .ok (.istore_n 1, 1) := by decide +kernel
theorem dX6_save_2 : decode cX6_save 2 = .ok (.iload_n 1, 1) := by decide +kernel
theorem dX6_save_3 : decode cX6_save 3 = .ok (.bipush 57, 2) := by decide +kernel
theorem dX6_save_5 : decode cX6_save 5 = .ok (.if_icmp .ge 21, 3) := by decide +kernel
theorem dX6_save_8 : decode cX6_save 8 = .ok (.aload_n 0, 1) := by decide +kernel
theorem dX6_save_9 : decode cX6_save 9 = .ok (.getfield 19, 3) := by decide +kernel
theorem dX6_save_12 : decode cX6_save 12 = .ok (.iload_n 1, 1) := by decide +kernel
theorem dX6_save_13 : decode cX6_save 13 = .ok (.aload_n 0, 1) := by decide +kernel
theorem dX6_save_14 : decode cX6_save 14 = .ok (.getfield 7, 3) := by decide +kernel
theorem dX6_save_17 : decode cX6_save 17 = .ok (.iload_n 1, 1) := by decide +kernel
theorem dX6_save_18 : decode cX6_save 18 = .ok (.iaload, 1) := by decide +kernel
theorem dX6_save_19 : decode cX6_save 19 = .ok (.iastore, 1) := by decide +kernel
theorem dX6_save_20 : decode cX6_save 20 = .ok (.iinc 1 1, 3) := by decide +kernel
theorem dX6_save_23 : decode cX6_save 23 = .ok (.goto (-21), 3) := by decide +kernel
theorem dX6_save_26 : decode cX6_save 26 = .ok (.aload_n 0, 1) := by decide +kernel
theorem dX6_save_27 : decode cX6_save 27 = .ok (.iconst 1, 1) := by decide +kernel
theorem dX6_save_28 : decode cX6_save 28 = .ok (.putfield 184, 3) := by decide +kernel
theorem dX6_save_31 : decode cX6_save 31 = .ok (.aload_n 0, 1) := by decide +kernel
theorem dX6_save_32 : decode cX6_save 32 = .ok (.getfield 7, 3) := by decide +kernel
theorem dX6_save_35 : decode cX6_save 35 = .ok (.iconst 0, 1) := by decide +kernel
theorem dX6_save_36 : decode cX6_save 36 = .ok (.iaload, 1) := by decide +kernel
theorem dX6_save_37 : decode cX6_save 37 = .ok (.ireturn, 1) := by decide +kernel
theorem dX6_restore_0 : decode cX6_restore 0 = .ok (.aload_n 0, 1) := by decide +kernel
theorem dX6_restore_1 : decode cX6_restore 1 = .ok (.getfield 184, 3) := by decide +kernel
theorem dX6_restore_4 : decode cX6_restore 4 = .ok (.ifCond .ne 6, 3) := by decide +kernel
theorem dX6_restore_7 : decode cX6_restore 7 = .ok (.bipush (-2), 2) := by decide +kernel
theorem dX6_restore_9 : decode cX6_restore 9 = .ok (.ireturn, 1) := by decide +kernel
theorem dX6_restore_10 : decode cX6_restore 10 = .ok (.aload_n 0, 1) := by decide +kernel
theorem dX6_restore_11 : decode cX6_restore 11 = .ok (.invokevirtual 108, 3) := by decide +kernel
theorem dX6_restore_14 : decode cX6_restore 14 = .ok (.iconst 0, 1) := by decide +kernel
theorem dX6_restore_15 : decode cX6_restore 15 = .ok (.istore_n 1, 1) := by decide +kernel
theorem dX6_restore_16 : decode cX6_restore 16 = .ok (.iload_n 1, 1) := by decide +kernel
theorem dX6_restore_17 : decode cX6_restore 17 = .ok (.bipush 57, 2) := by decide +kernel
theorem dX6_restore_19 : decode cX6_restore 19 = .ok (.if_icmp .ge 21, 3) := by decide +kernel
theorem dX6_restore_22 : decode cX6_restore 22 = .ok (.aload_n 0, 1) := by decide +kernel
theorem dX6_restore_23 : decode cX6_restore 23 = .ok (.getfield 7, 3) := by decide +kernel
theorem dX6_restore_26 : decode cX6_restore 26 = .ok (.iload_n 1, 1) := by decide +kernel
theorem dX6_restore_27 : decode cX6_restore 27 = .ok (.aload_n 0, 1) := by decide +kernel
theorem dX6_restore_28 : decode cX6_restore 28 = .ok (.getfield 19, 3) := by decide +kernel
theorem dX6_restore_31 : decode cX6_restore 31 = .ok (.iload_n 1, 1) := by decide +kernel
theorem dX6_restore_32 : decode cX6_restore 32 = .ok (.iaload, 1) := by decide +kernel
theorem dX6_restore_33 : decode cX6_restore 33 = .ok (.iastore, 1) := by decide +kernel
theorem dX6_restore_34 : decode cX6_restore 34 = .ok (.iinc 1 1, 3) := by decide +kernel
theorem dX6_restore_37 : decode cX6_restore 37 = .ok (.goto (-21), 3) := by decide +kernel
theorem dX6_restore_40 : decode cX6_restore 40 = .ok (.aload_n 0, 1) := by decide +kernel
theorem dX6_restore_41 : decode cX6_restore 41 = .ok (.getfield 7, 3) := by decide +kernel
theorem dX6_restore_44 : decode cX6_restore 44 = .ok (.iconst 0, 1) := by decide +kernel
theorem dX6_restore_45 : decode cX6_restore 45 = .ok (.iaload, 1) := by decide +kernel
theorem dX6_restore_46 : decode cX6_restore 46 = .ok (.ireturn, 1) := by decide +kernel
theorem dJ6_bitCount_0f7a4_0 : decode cJ6_bitCount_0f7a4 0 = .ok (.iload_n 0, 1) := by decide +kernel
theorem dJ6_bitCount_0f7a4_1 : decode cJ6_bitCount_0f7a4 1 = .ok (.iload_n 0, 1) := by decide +kernel
theorem dJ6_bitCount_0f7a4_2 : decode cJ6_bitCount_0f7a4 2 = .ok (.iconst 1, 1) := by decide +kernel
theorem dJ6_bitCount_0f7a4_3 : decode cJ6_bitCount_0f7a4 3 = .ok (.iushr, 1) := by decide +kernel
theorem dJ6_bitCount_0f7a4_4 : decode cJ6_bitCount_0f7a4 4 = .ok (.ldc_w 265, 3) := by decide +kernel
theorem dJ6_bitCount_0f7a4_7 : decode cJ6_bitCount_0f7a4 7 = .ok (.iand, 1) := by decide +kernel
theorem dJ6_bitCount_0f7a4_8 : decode cJ6_bitCount_0f7a4 8 = .ok (.isub, 1) := by decide +kernel
theorem dJ6_bitCount_0f7a4_9 : decode cJ6_bitCount_0f7a4 9 = .ok (.istore_n 0, 1) := by decide +kernel
theorem dJ6_bitCount_0f7a4_10 : decode cJ6_bitCount_0f7a4 10 = .ok (.iload_n 0, 1) := by decide +kernel
theorem dJ6_bitCount_0f7a4_11 : decode cJ6_bitCount_0f7a4 11 = .ok (.ldc_w 266, 3) := by decide +kernel
theorem dJ6_bitCount_0f7a4_14 : decode cJ6_bitCount_0f7a4 14 = .ok (.iand, 1) := by decide +kernel
theorem dJ6_bitCount_0f7a4_15 : decode cJ6_bitCount_0f7a4 15 = .ok (.iload_n 0, 1) := by decide +kernel
theorem dJ6_bitCount_0f7a4_16 : decode cJ6_bitCount_0f7a4 16 = .ok (.iconst 2, 1) := by decide +kernel
theorem dJ6_bitCount_0f7a4_17 : decode cJ6_bitCount_0f7a4 17 = .ok (.iushr, 1) := by decide +kernel
theorem dJ6_bitCount_0f7a4_18 : decode cJ6_bitCount_0f7a4 18 = .ok (.ldc_w 266, 3) := by decide +kernel
theorem dJ6_bitCount_0f7a4_21 : decode cJ6_bitCount_0f7a4 21 = .ok (.iand, 1) := by decide +kernel
theorem dJ6_bitCount_0f7a4_22 : decode cJ6_bitCount_0f7a4 22 = .ok (.iadd, 1) := by decide +kernel
theorem dJ6_bitCount_0f7a4_23 : decode cJ6_bitCount_0f7a4 23 = .ok (.istore_n 0, 1) := by decide +kernel
theorem dJ6_bitCount_0f7a4_24 : decode cJ6_bitCount_0f7a4 24 = .ok (.iload_n 0, 1) := by decide +kernel
theorem dJ6_bitCount_0f7a4_25 : decode cJ6_bitCount_0f7a4 25 = .ok (.iload_n 0, 1) := by decide +kernel
theorem dJ6_bitCount_0f7a4_26 : decode cJ6_bitCount_0f7a4 26 = .ok (.iconst 4, 1) := by decide +kernel
theorem dJ6_bitCount_0f7a4_27 : decode cJ6_bitCount_0f7a4 27 = .ok (.iushr, 1) := by decide +kernel
theorem dJ6_bitCount_0f7a4_28 : decode cJ6_bitCount_0f7a4 28 = .ok (.iadd, 1) := by decide +kernel
theorem dJ6_bitCount_0f7a4_29 : decode cJ6_bitCount_0f7a4 29 = .ok (.ldc_w 267, 3) := by decide +kernel
theorem dJ6_bitCount_0f7a4_32 : decode cJ6_bitCount_0f7a4 32 = .ok (.iand, 1) := by decide +kernel
theorem dJ6_bitCount_0f7a4_33 : decode cJ6_bitCount_0f7a4 33 = .ok (.istore_n 0, 1) := by decide +kernel
theorem dJ6_bitCount_0f7a4_34 : decode cJ6_bitCount_0f7a4 34 = .ok (.iload_n 0, 1) := by decide +kernel
theorem dJ6_bitCount_0f7a4_35 : decode cJ6_bitCount_0f7a4 35 = .ok (.iload_n 0, 1) := by decide +kernel
theorem dJ6_bitCount_0f7a4_36 : decode cJ6_bitCount_0f7a4 36 = .ok (.bipush 8, 2) := by decide +kernel
theorem dJ6_bitCount_0f7a4_38 : decode cJ6_bitCount_0f7a4 38 = .ok (.iushr, 1) := by decide +kernel
theorem dJ6_bitCount_0f7a4_39 : decode cJ6_bitCount_0f7a4 39 = .ok (.iadd, 1) := by decide +kernel
theorem dJ6_bitCount_0f7a4_40 : decode cJ6_bitCount_0f7a4 40 = .ok (.istore_n 0, 1) := by decide +kernel
theorem dJ6_bitCount_0f7a4_41 : decode cJ6_bitCount_0f7a4 41 = .ok (.iload_n 0, 1) := by decide +kernel
theorem dJ6_bitCount_0f7a4_42 : decode cJ6_bitCount_0f7a4 42 = .ok (.iload_n 0, 1) := by decide +kernel
theorem dJ6_bitCount_0f7a4_43 : decode cJ6_bitCount_0f7a4 43 = .ok (.bipush 16, 2) := by decide +kernel
theorem dJ6_bitCount_0f7a4_45 : decode cJ6_bitCount_0f7a4 45 = .ok (.iushr, 1) := by decide +kernel
theorem dJ6_bitCount_0f7a4_46 : decode cJ6_bitCount_0f7a4 46 = .ok (.iadd, 1) := by decide +kernel
theorem dJ6_bitCount_0f7a4_47 : decode cJ6_bitCount_0f7a4 47 = .ok (.istore_n 0, 1) := by decide +kernel
theorem dJ6_bitCount_0f7a4_48 : decode cJ6_bitCount_0f7a4 48 = .ok (.iload_n 0, 1) := by decide +kernel
theorem dJ6_bitCount_0f7a4_49 : decode cJ6_bitCount_0f7a4 49 = .ok (.bipush 63, 2) := by decide +kernel
theorem dJ6_bitCount_0f7a4_51 : decode cJ6_bitCount_0f7a4 51 = .ok (.iand, 1) := by decide +kernel
theorem dJ6_bitCount_0f7a4_52 : decode cJ6_bitCount_0f7a4 52 = .ok (.ireturn, 1) := by decide +kernel
theorem dJ9_max_7cf53_0 : decode cJ9_max_7cf53 0 = .ok (.iload_n 0, 1) := by decide +kernel
theorem dJ9_max_7cf53_1 : decode cJ9_max_7cf53 1 = .ok (.iload_n 1, 1) := by decide +kernel
theorem dJ9_max_7cf53_2 : decode cJ9_max_7cf53 2 = .ok (.if_icmp .lt 7, 3) := by decide +kernel
theorem dJ9_max_7cf53_5 : decode cJ9_max_7cf53 5 = .ok (.iload_n 0, 1) := by decide +kernel
theorem dJ9_max_7cf53_6 : decode cJ9_max_7cf53 6 = .ok (.goto 4, 3) := by decide +kernel
theorem dJ9_max_7cf53_9 : decode cJ9_max_7cf53 9 = .ok (.iload_n 1, 1) := by decide +kernel
theorem dJ9_max_7cf53_10 : decode cJ9_max_7cf53 10 = .ok (.ireturn, 1) := by decide +kernel
theorem dJ9_min_7cf53_0 : decode cJ9_min_7cf53 0 = .ok (.iload_n 0, 1) := by decide +kernel
theorem dJ9_min_7cf53_1 : decode cJ9_min_7cf53 1 = .ok (.iload_n 1, 1) := by decide +kernel
theorem dJ9_min_7cf53_2 : decode cJ9_min_7cf53 2 = .ok (.if_icmp .gt 7, 3) := by decide +kernel
theorem dJ9_min_7cf53_5 : decode cJ9_min_7cf53 5 = .ok (.iload_n 0, 1) := by decide +kernel
theorem dJ9_min_7cf53_6 : decode cJ9_min_7cf53 6 = .ok (.goto 4, 3) := by decide +kernel
theorem dJ9_min_7cf53_9 : decode cJ9_min_7cf53 9 = .ok (.iload_n 1, 1) := by decide +kernel
theorem dJ9_min_7cf53_10 : decode cJ9_min_7cf53 10 = .ok (.ireturn, 1) := by decide +kernel
theorem dJ7_fill_53178_0 : decode cJ7_fill_53178 0 = .ok (.iconst 0, 1) := by decide +kernel
theorem dJ7_fill_53178_1 : decode cJ7_fill_53178 1 = .ok (.istore_n 2, 1) := by decide +kernel
theorem dJ7_fill_53178_2 : decode cJ7_fill_53178 2 = .ok (.aload_n 0, 1) := by decide +kernel
theorem dJ7_fill_53178_3 : decode cJ7_fill_53178 3 = .ok (.arraylength, 1) := by decide +kernel
theorem dJ7_fill_53178_4 : decode cJ7_fill_53178 4 = .ok (.istore_n 3, 1) := by decide +kernel
theorem dJ7_fill_53178_5 : decode cJ7_fill_53178 5 = .ok (.iload_n 2, 1) := by decide +kernel
theorem dJ7_fill_53178_6 : decode cJ7_fill_53178 6 = .ok (.iload_n 3, 1) := by decide +kernel
theorem dJ7_fill_53178_7 : decode cJ7_fill_53178 7 = .ok (.if_icmp .ge 13, 3) := by decide +kernel
theorem dJ7_fill_53178_10 : decode cJ7_fill_53178 10 = .ok (.aload_n 0, 1) := by decide +kernel
theorem dJ7_fill_53178_11 : decode cJ7_fill_53178 11 = .ok (.iload_n 2, 1) := by decide +kernel
theorem dJ7_fill_53178_12 : decode cJ7_fill_53178 12 = .ok (.iload_n 1, 1) := by decide +kernel
theorem dJ7_fill_53178_13 : decode cJ7_fill_53178 13 = .ok (.iastore, 1) := by decide +kernel
theorem dJ7_fill_53178_14 : decode cJ7_fill_53178 14 = .ok (.iinc 2 1, 3) := by decide +kernel
theorem dJ7_fill_53178_17 : decode cJ7_fill_53178 17 = .ok (.goto (-12), 3) := by decide +kernel
theorem dJ7_fill_53178_20 : decode cJ7_fill_53178 20 = .ok (.return_, 1) := by decide +kernel
theorem dL_law_0 : decode cL_law 0 = .ok (.new 7, 3) := by decide +kernel
theorem dL_law_3 : decode cL_law 3 = .ok (.dup, 1) := by decide +kernel
theorem dL_law_4 : decode cL_law 4 = .ok (.invokespecial 9, 3) := by decide +kernel
theorem dL_law_7 : decode cL_law 7 = .ok (.astore_n 1, 1) := by decide +kernel
theorem dL_law_8 : decode cL_law 8 = .ok (.new 10, 3) := by decide +kernel
theorem dL_law_11 : decode cL_law 11 = .ok (.dup, 1) := by decide +kernel
theorem dL_law_12 : decode cL_law 12 = .ok (.invokespecial 12, 3) := by decide +kernel
theorem dL_law_15 : decode cL_law 15 = .ok (.astore_n 2, 1) := by decide +kernel
theorem dL_law_16 : decode cL_law 16 = .ok (.iconst 0, 1) := by decide +kernel
theorem dL_law_17 : decode cL_law 17 = .ok (.istore_n 3, 1) := by decide +kernel
theorem dL_law_18 : decode cL_law 18 = .ok (.iload_n 3, 1) := by decide +kernel
theorem dL_law_19 : decode cL_law 19 = .ok (.aload_n 0, 1) := by decide +kernel
theorem dL_law_20 : decode cL_law 20 = .ok (.arraylength, 1) := by decide +kernel
theorem dL_law_21 : decode cL_law 21 = .ok (.iconst 3, 1) := by decide +kernel
theorem dL_law_22 : decode cL_law 22 = .ok (.isub, 1) := by decide +kernel
theorem dL_law_23 : decode cL_law 23 = .ok (.if_icmp .gt 815, 3) := by decide +kernel
theorem dL_law_26 : decode cL_law 26 = .ok (.aload_n 0, 1) := by decide +kernel
theorem dL_law_27 : decode cL_law 27 = .ok (.iload_n 3, 1) := by decide +kernel
theorem dL_law_28 : decode cL_law 28 = .ok (.iaload, 1) := by decide +kernel
theorem dL_law_29 : decode cL_law 29 = .ok (.bipush 31, 2) := by decide +kernel
theorem dL_law_31 : decode cL_law 31 = .ok (.iand, 1) := by decide +kernel
theorem dL_law_32 : decode cL_law 32 = .ok (.tableswitch 800 0 27 #[128, 161, 184, 217, 250, 273, 296, 329, 342, 355, 378, 391, 414, 427, 440, 463, 496, 529, 562, 585, 618, 641, 682, 705, 738, 761, 774, 787], 128) := by decide +kernel
theorem dL_law_160 : decode cL_law 160 = .ok (.aload_n 1, 1) := by decide +kernel
theorem dL_law_161 : decode cL_law 161 = .ok (.aload_n 0, 1) := by decide +kernel
theorem dL_law_162 : decode cL_law 162 = .ok (.iload_n 3, 1) := by decide +kernel
theorem dL_law_163 : decode cL_law 163 = .ok (.iconst 1, 1) := by decide +kernel
theorem dL_law_164 : decode cL_law 164 = .ok (.iadd, 1) := by decide +kernel
theorem dL_law_165 : decode cL_law 165 = .ok (.iaload, 1) := by decide +kernel
theorem dL_law_166 : decode cL_law 166 = .ok (.aload_n 0, 1) := by decide +kernel
theorem dL_law_167 : decode cL_law 167 = .ok (.iload_n 3, 1) := by decide +kernel
theorem dL_law_168 : decode cL_law 168 = .ok (.iconst 2, 1) := by decide +kernel
theorem dL_law_169 : decode cL_law 169 = .ok (.iadd, 1) := by decide +kernel
theorem dL_law_170 : decode cL_law 170 = .ok (.iaload, 1) := by decide +kernel
theorem dL_law_171 : decode cL_law 171 = .ok (.invokevirtual 13, 3) := by decide +kernel
theorem dL_law_174 : decode cL_law 174 = .ok (.aload_n 2, 1) := by decide +kernel
theorem dL_law_175 : decode cL_law 175 = .ok (.aload_n 0, 1) := by decide +kernel
theorem dL_law_176 : decode cL_law 176 = .ok (.iload_n 3, 1) := by decide +kernel
theorem dL_law_177 : decode cL_law 177 = .ok (.iconst 1, 1) := by decide +kernel
theorem dL_law_178 : decode cL_law 178 = .ok (.iadd, 1) := by decide +kernel
theorem dL_law_179 : decode cL_law 179 = .ok (.iaload, 1) := by decide +kernel
theorem dL_law_180 : decode cL_law 180 = .ok (.aload_n 0, 1) := by decide +kernel
theorem dL_law_181 : decode cL_law 181 = .ok (.iload_n 3, 1) := by decide +kernel
theorem dL_law_182 : decode cL_law 182 = .ok (.iconst 2, 1) := by decide +kernel
theorem dL_law_183 : decode cL_law 183 = .ok (.iadd, 1) := by decide +kernel
theorem dL_law_184 : decode cL_law 184 = .ok (.iaload, 1) := by decide +kernel
theorem dL_law_185 : decode cL_law 185 = .ok (.invokevirtual 17, 3) := by decide +kernel
theorem dL_law_188 : decode cL_law 188 = .ok (.if_icmp .eq 644, 3) := by decide +kernel
theorem dL_law_191 : decode cL_law 191 = .ok (.iconst 0, 1) := by decide +kernel
theorem dL_law_192 : decode cL_law 192 = .ok (.ireturn, 1) := by decide +kernel
theorem dL_law_193 : decode cL_law 193 = .ok (.aload_n 1, 1) := by decide +kernel
theorem dL_law_194 : decode cL_law 194 = .ok (.aload_n 0, 1) := by decide +kernel
theorem dL_law_195 : decode cL_law 195 = .ok (.iload_n 3, 1) := by decide +kernel
theorem dL_law_196 : decode cL_law 196 = .ok (.iconst 1, 1) := by decide +kernel
theorem dL_law_197 : decode cL_law 197 = .ok (.iadd, 1) := by decide +kernel
theorem dL_law_198 : decode cL_law 198 = .ok (.iaload, 1) := by decide +kernel
theorem dL_law_199 : decode cL_law 199 = .ok (.invokevirtual 18, 3) := by decide +kernel
theorem dL_law_202 : decode cL_law 202 = .ok (.aload_n 2, 1) := by decide +kernel
theorem dL_law_203 : decode cL_law 203 = .ok (.aload_n 0, 1) := by decide +kernel
theorem dL_law_204 : decode cL_law 204 = .ok (.iload_n 3, 1) := by decide +kernel
theorem dL_law_205 : decode cL_law 205 = .ok (.iconst 1, 1) := by decide +kernel
theorem dL_law_206 : decode cL_law 206 = .ok (.iadd, 1) := by decide +kernel
theorem dL_law_207 : decode cL_law 207 = .ok (.iaload, 1) := by decide +kernel
theorem dL_law_208 : decode cL_law 208 = .ok (.invokevirtual 22, 3) := by decide +kernel
theorem dL_law_211 : decode cL_law 211 = .ok (.if_icmp .eq 621, 3) := by decide +kernel
theorem dL_law_214 : decode cL_law 214 = .ok (.iconst 0, 1) := by decide +kernel
theorem dL_law_215 : decode cL_law 215 = .ok (.ireturn, 1) := by decide +kernel
theorem dL_law_216 : decode cL_law 216 = .ok (.aload_n 1, 1) := by decide +kernel
theorem dL_law_217 : decode cL_law 217 = .ok (.aload_n 0, 1) := by decide +kernel
theorem dL_law_218 : decode cL_law 218 = .ok (.iload_n 3, 1) := by decide +kernel
theorem dL_law_219 : decode cL_law 219 = .ok (.iconst 1, 1) := by decide +kernel
theorem dL_law_220 : decode cL_law 220 = .ok (.iadd, 1) := by decide +kernel
theorem dL_law_221 : decode cL_law 221 = .ok (.iaload, 1) := by decide +kernel
theorem dL_law_222 : decode cL_law 222 = .ok (.aload_n 0, 1) := by decide +kernel
theorem dL_law_223 : decode cL_law 223 = .ok (.iload_n 3, 1) := by decide +kernel
theorem dL_law_224 : decode cL_law 224 = .ok (.iconst 2, 1) := by decide +kernel
theorem dL_law_225 : decode cL_law 225 = .ok (.iadd, 1) := by decide +kernel
theorem dL_law_226 : decode cL_law 226 = .ok (.iaload, 1) := by decide +kernel
theorem dL_law_227 : decode cL_law 227 = .ok (.invokevirtual 23, 3) := by decide +kernel
theorem dL_law_230 : decode cL_law 230 = .ok (.aload_n 2, 1) := by decide +kernel
theorem dL_law_231 : decode cL_law 231 = .ok (.aload_n 0, 1) := by decide +kernel
theorem dL_law_232 : decode cL_law 232 = .ok (.iload_n 3, 1) := by decide +kernel
theorem dL_law_233 : decode cL_law 233 = .ok (.iconst 1, 1) := by decide +kernel
theorem dL_law_234 : decode cL_law 234 = .ok (.iadd, 1) := by decide +kernel
theorem dL_law_235 : decode cL_law 235 = .ok (.iaload, 1) := by decide +kernel
theorem dL_law_236 : decode cL_law 236 = .ok (.aload_n 0, 1) := by decide +kernel
theorem dL_law_237 : decode cL_law 237 = .ok (.iload_n 3, 1) := by decide +kernel
theorem dL_law_238 : decode cL_law 238 = .ok (.iconst 2, 1) := by decide +kernel
theorem dL_law_239 : decode cL_law 239 = .ok (.iadd, 1) := by decide +kernel
theorem dL_law_240 : decode cL_law 240 = .ok (.iaload, 1) := by decide +kernel
theorem dL_law_241 : decode cL_law 241 = .ok (.invokevirtual 26, 3) := by decide +kernel
theorem dL_law_244 : decode cL_law 244 = .ok (.if_icmp .eq 588, 3) := by decide +kernel
theorem dL_law_247 : decode cL_law 247 = .ok (.iconst 0, 1) := by decide +kernel
theorem dL_law_248 : decode cL_law 248 = .ok (.ireturn, 1) := by decide +kernel
theorem dL_law_249 : decode cL_law 249 = .ok (.aload_n 1, 1) := by decide +kernel
theorem dL_law_250 : decode cL_law 250 = .ok (.aload_n 0, 1) := by decide +kernel
theorem dL_law_251 : decode cL_law 251 = .ok (.iload_n 3, 1) := by decide +kernel
theorem dL_law_252 : decode cL_law 252 = .ok (.iconst 1, 1) := by decide +kernel
theorem dL_law_253 : decode cL_law 253 = .ok (.iadd, 1) := by decide +kernel
theorem dL_law_254 : decode cL_law 254 = .ok (.iaload, 1) := by decide +kernel
theorem dL_law_255 : decode cL_law 255 = .ok (.aload_n 0, 1) := by decide +kernel
theorem dL_law_256 : decode cL_law 256 = .ok (.iload_n 3, 1) := by decide +kernel
theorem dL_law_257 : decode cL_law 257 = .ok (.iconst 2, 1) := by decide +kernel
theorem dL_law_258 : decode cL_law 258 = .ok (.iadd, 1) := by decide +kernel
theorem dL_law_259 : decode cL_law 259 = .ok (.iaload, 1) := by decide +kernel
theorem dL_law_260 : decode cL_law 260 = .ok (.invokevirtual 27, 3) := by decide +kernel
theorem dL_law_263 : decode cL_law 263 = .ok (.aload_n 2, 1) := by decide +kernel
theorem dL_law_264 : decode cL_law 264 = .ok (.aload_n 0, 1) := by decide +kernel
theorem dL_law_265 : decode cL_law 265 = .ok (.iload_n 3, 1) := by decide +kernel
theorem dL_law_266 : decode cL_law 266 = .ok (.iconst 1, 1) := by decide +kernel
theorem dL_law_267 : decode cL_law 267 = .ok (.iadd, 1) := by decide +kernel
theorem dL_law_268 : decode cL_law 268 = .ok (.iaload, 1) := by decide +kernel
theorem dL_law_269 : decode cL_law 269 = .ok (.aload_n 0, 1) := by decide +kernel
theorem dL_law_270 : decode cL_law 270 = .ok (.iload_n 3, 1) := by decide +kernel
theorem dL_law_271 : decode cL_law 271 = .ok (.iconst 2, 1) := by decide +kernel
theorem dL_law_272 : decode cL_law 272 = .ok (.iadd, 1) := by decide +kernel
theorem dL_law_273 : decode cL_law 273 = .ok (.iaload, 1) := by decide +kernel
theorem dL_law_274 : decode cL_law 274 = .ok (.invokevirtual 30, 3) := by decide +kernel
theorem dL_law_277 : decode cL_law 277 = .ok (.if_icmp .eq 555, 3) := by decide +kernel
theorem dL_law_280 : decode cL_law 280 = .ok (.iconst 0, 1) := by decide +kernel
theorem dL_law_281 : decode cL_law 281 = .ok (.ireturn, 1) := by decide +kernel
theorem dL_law_282 : decode cL_law 282 = .ok (.aload_n 1, 1) := by decide +kernel
theorem dL_law_283 : decode cL_law 283 = .ok (.aload_n 0, 1) := by decide +kernel
theorem dL_law_284 : decode cL_law 284 = .ok (.iload_n 3, 1) := by decide +kernel
theorem dL_law_285 : decode cL_law 285 = .ok (.iconst 1, 1) := by decide +kernel
theorem dL_law_286 : decode cL_law 286 = .ok (.iadd, 1) := by decide +kernel
theorem dL_law_287 : decode cL_law 287 = .ok (.iaload, 1) := by decide +kernel
theorem dL_law_288 : decode cL_law 288 = .ok (.invokevirtual 31, 3) := by decide +kernel
theorem dL_law_291 : decode cL_law 291 = .ok (.aload_n 2, 1) := by decide +kernel
theorem dL_law_292 : decode cL_law 292 = .ok (.aload_n 0, 1) := by decide +kernel
theorem dL_law_293 : decode cL_law 293 = .ok (.iload_n 3, 1) := by decide +kernel
theorem dL_law_294 : decode cL_law 294 = .ok (.iconst 1, 1) := by decide +kernel
theorem dL_law_295 : decode cL_law 295 = .ok (.iadd, 1) := by decide +kernel
theorem dL_law_296 : decode cL_law 296 = .ok (.iaload, 1) := by decide +kernel
theorem dL_law_297 : decode cL_law 297 = .ok (.invokevirtual 34, 3) := by decide +kernel
theorem dL_law_300 : decode cL_law 300 = .ok (.if_icmp .eq 532, 3) := by decide +kernel
theorem dL_law_303 : decode cL_law 303 = .ok (.iconst 0, 1) := by decide +kernel
theorem dL_law_304 : decode cL_law 304 = .ok (.ireturn, 1) := by decide +kernel
theorem dL_law_305 : decode cL_law 305 = .ok (.aload_n 1, 1) := by decide +kernel
theorem dL_law_306 : decode cL_law 306 = .ok (.aload_n 0, 1) := by decide +kernel
theorem dL_law_307 : decode cL_law 307 = .ok (.iload_n 3, 1) := by decide +kernel
theorem dL_law_308 : decode cL_law 308 = .ok (.iconst 1, 1) := by decide +kernel
theorem dL_law_309 : decode cL_law 309 = .ok (.iadd, 1) := by decide +kernel
theorem dL_law_310 : decode cL_law 310 = .ok (.iaload, 1) := by decide +kernel
theorem dL_law_311 : decode cL_law 311 = .ok (.invokevirtual 35, 3) := by decide +kernel
theorem dL_law_314 : decode cL_law 314 = .ok (.aload_n 2, 1) := by decide +kernel
theorem dL_law_315 : decode cL_law 315 = .ok (.aload_n 0, 1) := by decide +kernel
theorem dL_law_316 : decode cL_law 316 = .ok (.iload_n 3, 1) := by decide +kernel
theorem dL_law_317 : decode cL_law 317 = .ok (.iconst 1, 1) := by decide +kernel
theorem dL_law_318 : decode cL_law 318 = .ok (.iadd, 1) := by decide +kernel
theorem dL_law_319 : decode cL_law 319 = .ok (.iaload, 1) := by decide +kernel
theorem dL_law_320 : decode cL_law 320 = .ok (.invokevirtual 38, 3) := by decide +kernel
theorem dL_law_323 : decode cL_law 323 = .ok (.if_icmp .eq 509, 3) := by decide +kernel
theorem dL_law_326 : decode cL_law 326 = .ok (.iconst 0, 1) := by decide +kernel
theorem dL_law_327 : decode cL_law 327 = .ok (.ireturn, 1) := by decide +kernel
theorem dL_law_328 : decode cL_law 328 = .ok (.aload_n 1, 1) := by decide +kernel
theorem dL_law_329 : decode cL_law 329 = .ok (.aload_n 0, 1) := by decide +kernel
theorem dL_law_330 : decode cL_law 330 = .ok (.iload_n 3, 1) := by decide +kernel
theorem dL_law_331 : decode cL_law 331 = .ok (.iconst 1, 1) := by decide +kernel
theorem dL_law_332 : decode cL_law 332 = .ok (.iadd, 1) := by decide +kernel
theorem dL_law_333 : decode cL_law 333 = .ok (.iaload, 1) := by decide +kernel
theorem dL_law_334 : decode cL_law 334 = .ok (.aload_n 0, 1) := by decide +kernel
theorem dL_law_335 : decode cL_law 335 = .ok (.iload_n 3, 1) := by decide +kernel
theorem dL_law_336 : decode cL_law 336 = .ok (.iconst 2, 1) := by decide +kernel
theorem dL_law_337 : decode cL_law 337 = .ok (.iadd, 1) := by decide +kernel
theorem dL_law_338 : decode cL_law 338 = .ok (.iaload, 1) := by decide +kernel
theorem dL_law_339 : decode cL_law 339 = .ok (.invokevirtual 39, 3) := by decide +kernel
theorem dL_law_342 : decode cL_law 342 = .ok (.aload_n 2, 1) := by decide +kernel
theorem dL_law_343 : decode cL_law 343 = .ok (.aload_n 0, 1) := by decide +kernel
theorem dL_law_344 : decode cL_law 344 = .ok (.iload_n 3, 1) := by decide +kernel
theorem dL_law_345 : decode cL_law 345 = .ok (.iconst 1, 1) := by decide +kernel
theorem dL_law_346 : decode cL_law 346 = .ok (.iadd, 1) := by decide +kernel
theorem dL_law_347 : decode cL_law 347 = .ok (.iaload, 1) := by decide +kernel
theorem dL_law_348 : decode cL_law 348 = .ok (.aload_n 0, 1) := by decide +kernel
theorem dL_law_349 : decode cL_law 349 = .ok (.iload_n 3, 1) := by decide +kernel
theorem dL_law_350 : decode cL_law 350 = .ok (.iconst 2, 1) := by decide +kernel
theorem dL_law_351 : decode cL_law 351 = .ok (.iadd, 1) := by decide +kernel
theorem dL_law_352 : decode cL_law 352 = .ok (.iaload, 1) := by decide +kernel
theorem dL_law_353 : decode cL_law 353 = .ok (.invokevirtual 42, 3) := by decide +kernel
theorem dL_law_356 : decode cL_law 356 = .ok (.if_icmp .eq 476, 3) := by decide +kernel
theorem dL_law_359 : decode cL_law 359 = .ok (.iconst 0, 1) := by decide +kernel
theorem dL_law_360 : decode cL_law 360 = .ok (.ireturn, 1) := by decide +kernel
theorem dL_law_361 : decode cL_law 361 = .ok (.aload_n 1, 1) := by decide +kernel
theorem dL_law_362 : decode cL_law 362 = .ok (.invokevirtual 43, 3) := by decide +kernel
theorem dL_law_365 : decode cL_law 365 = .ok (.aload_n 2, 1) := by decide +kernel
theorem dL_law_366 : decode cL_law 366 = .ok (.invokevirtual 47, 3) := by decide +kernel
theorem dL_law_369 : decode cL_law 369 = .ok (.if_icmp .eq 463, 3) := by decide +kernel
theorem dL_law_372 : decode cL_law 372 = .ok (.iconst 0, 1) := by decide +kernel
theorem dL_law_373 : decode cL_law 373 = .ok (.ireturn, 1) := by decide +kernel
theorem dL_law_374 : decode cL_law 374 = .ok (.aload_n 1, 1) := by decide +kernel
theorem dL_law_375 : decode cL_law 375 = .ok (.invokevirtual 48, 3) := by decide +kernel
theorem dL_law_378 : decode cL_law 378 = .ok (.aload_n 2, 1) := by decide +kernel
theorem dL_law_379 : decode cL_law 379 = .ok (.invokevirtual 51, 3) := by decide +kernel
theorem dL_law_382 : decode cL_law 382 = .ok (.if_icmp .eq 450, 3) := by decide +kernel
theorem dL_law_385 : decode cL_law 385 = .ok (.iconst 0, 1) := by decide +kernel
theorem dL_law_386 : decode cL_law 386 = .ok (.ireturn, 1) := by decide +kernel
theorem dL_law_387 : decode cL_law 387 = .ok (.aload_n 1, 1) := by decide +kernel
theorem dL_law_388 : decode cL_law 388 = .ok (.aload_n 0, 1) := by decide +kernel
theorem dL_law_389 : decode cL_law 389 = .ok (.iload_n 3, 1) := by decide +kernel
theorem dL_law_390 : decode cL_law 390 = .ok (.iconst 1, 1) := by decide +kernel
theorem dL_law_391 : decode cL_law 391 = .ok (.iadd, 1) := by decide +kernel
theorem dL_law_392 : decode cL_law 392 = .ok (.iaload, 1) := by decide +kernel
theorem dL_law_393 : decode cL_law 393 = .ok (.invokevirtual 52, 3) := by decide +kernel
theorem dL_law_396 : decode cL_law 396 = .ok (.aload_n 2, 1) := by decide +kernel
theorem dL_law_397 : decode cL_law 397 = .ok (.aload_n 0, 1) := by decide +kernel
theorem dL_law_398 : decode cL_law 398 = .ok (.iload_n 3, 1) := by decide +kernel
theorem dL_law_399 : decode cL_law 399 = .ok (.iconst 1, 1) := by decide +kernel
theorem dL_law_400 : decode cL_law 400 = .ok (.iadd, 1) := by decide +kernel
theorem dL_law_401 : decode cL_law 401 = .ok (.iaload, 1) := by decide +kernel
theorem dL_law_402 : decode cL_law 402 = .ok (.invokevirtual 55, 3) := by decide +kernel
theorem dL_law_405 : decode cL_law 405 = .ok (.if_icmp .eq 427, 3) := by decide +kernel
theorem dL_law_408 : decode cL_law 408 = .ok (.iconst 0, 1) := by decide +kernel
theorem dL_law_409 : decode cL_law 409 = .ok (.ireturn, 1) := by decide +kernel
theorem dL_law_410 : decode cL_law 410 = .ok (.aload_n 1, 1) := by decide +kernel
theorem dL_law_411 : decode cL_law 411 = .ok (.invokevirtual 56, 3) := by decide +kernel
theorem dL_law_414 : decode cL_law 414 = .ok (.aload_n 2, 1) := by decide +kernel
theorem dL_law_415 : decode cL_law 415 = .ok (.invokevirtual 59, 3) := by decide +kernel
theorem dL_law_418 : decode cL_law 418 = .ok (.if_icmp .eq 414, 3) := by decide +kernel
theorem dL_law_421 : decode cL_law 421 = .ok (.iconst 0, 1) := by decide +kernel
theorem dL_law_422 : decode cL_law 422 = .ok (.ireturn, 1) := by decide +kernel
theorem dL_law_423 : decode cL_law 423 = .ok (.aload_n 1, 1) := by decide +kernel
theorem dL_law_424 : decode cL_law 424 = .ok (.aload_n 0, 1) := by decide +kernel
theorem dL_law_425 : decode cL_law 425 = .ok (.iload_n 3, 1) := by decide +kernel
theorem dL_law_426 : decode cL_law 426 = .ok (.iconst 1, 1) := by decide +kernel
theorem dL_law_427 : decode cL_law 427 = .ok (.iadd, 1) := by decide +kernel
theorem dL_law_428 : decode cL_law 428 = .ok (.iaload, 1) := by decide +kernel
theorem dL_law_429 : decode cL_law 429 = .ok (.invokevirtual 60, 3) := by decide +kernel
theorem dL_law_432 : decode cL_law 432 = .ok (.aload_n 2, 1) := by decide +kernel
theorem dL_law_433 : decode cL_law 433 = .ok (.aload_n 0, 1) := by decide +kernel
theorem dL_law_434 : decode cL_law 434 = .ok (.iload_n 3, 1) := by decide +kernel
theorem dL_law_435 : decode cL_law 435 = .ok (.iconst 1, 1) := by decide +kernel
theorem dL_law_436 : decode cL_law 436 = .ok (.iadd, 1) := by decide +kernel
theorem dL_law_437 : decode cL_law 437 = .ok (.iaload, 1) := by decide +kernel
theorem dL_law_438 : decode cL_law 438 = .ok (.invokevirtual 63, 3) := by decide +kernel
theorem dL_law_441 : decode cL_law 441 = .ok (.if_icmp .eq 391, 3) := by decide +kernel
theorem dL_law_444 : decode cL_law 444 = .ok (.iconst 0, 1) := by decide +kernel
theorem dL_law_445 : decode cL_law 445 = .ok (.ireturn, 1) := by decide +kernel
theorem dL_law_446 : decode cL_law 446 = .ok (.aload_n 1, 1) := by decide +kernel
theorem dL_law_447 : decode cL_law 447 = .ok (.invokevirtual 64, 3) := by decide +kernel
theorem dL_law_450 : decode cL_law 450 = .ok (.aload_n 2, 1) := by decide +kernel
theorem dL_law_451 : decode cL_law 451 = .ok (.invokevirtual 67, 3) := by decide +kernel
theorem dL_law_454 : decode cL_law 454 = .ok (.if_icmp .eq 378, 3) := by decide +kernel
theorem dL_law_457 : decode cL_law 457 = .ok (.iconst 0, 1) := by decide +kernel
theorem dL_law_458 : decode cL_law 458 = .ok (.ireturn, 1) := by decide +kernel
theorem dL_law_459 : decode cL_law 459 = .ok (.aload_n 1, 1) := by decide +kernel
theorem dL_law_460 : decode cL_law 460 = .ok (.invokevirtual 68, 3) := by decide +kernel
theorem dL_law_463 : decode cL_law 463 = .ok (.aload_n 2, 1) := by decide +kernel
theorem dL_law_464 : decode cL_law 464 = .ok (.invokevirtual 71, 3) := by decide +kernel
theorem dL_law_467 : decode cL_law 467 = .ok (.if_icmp .eq 365, 3) := by decide +kernel
theorem dL_law_470 : decode cL_law 470 = .ok (.iconst 0, 1) := by decide +kernel
theorem dL_law_471 : decode cL_law 471 = .ok (.ireturn, 1) := by decide +kernel
theorem dL_law_472 : decode cL_law 472 = .ok (.aload_n 1, 1) := by decide +kernel
theorem dL_law_473 : decode cL_law 473 = .ok (.aload_n 0, 1) := by decide +kernel
theorem dL_law_474 : decode cL_law 474 = .ok (.iload_n 3, 1) := by decide +kernel
theorem dL_law_475 : decode cL_law 475 = .ok (.iconst 1, 1) := by decide +kernel
theorem dL_law_476 : decode cL_law 476 = .ok (.iadd, 1) := by decide +kernel
theorem dL_law_477 : decode cL_law 477 = .ok (.iaload, 1) := by decide +kernel
theorem dL_law_478 : decode cL_law 478 = .ok (.invokevirtual 72, 3) := by decide +kernel
theorem dL_law_481 : decode cL_law 481 = .ok (.aload_n 2, 1) := by decide +kernel
theorem dL_law_482 : decode cL_law 482 = .ok (.aload_n 0, 1) := by decide +kernel
theorem dL_law_483 : decode cL_law 483 = .ok (.iload_n 3, 1) := by decide +kernel
theorem dL_law_484 : decode cL_law 484 = .ok (.iconst 1, 1) := by decide +kernel
theorem dL_law_485 : decode cL_law 485 = .ok (.iadd, 1) := by decide +kernel
theorem dL_law_486 : decode cL_law 486 = .ok (.iaload, 1) := by decide +kernel
theorem dL_law_487 : decode cL_law 487 = .ok (.invokevirtual 75, 3) := by decide +kernel
theorem dL_law_490 : decode cL_law 490 = .ok (.if_icmp .eq 342, 3) := by decide +kernel
theorem dL_law_493 : decode cL_law 493 = .ok (.iconst 0, 1) := by decide +kernel
theorem dL_law_494 : decode cL_law 494 = .ok (.ireturn, 1) := by decide +kernel
theorem dL_law_495 : decode cL_law 495 = .ok (.aload_n 1, 1) := by decide +kernel
theorem dL_law_496 : decode cL_law 496 = .ok (.aload_n 0, 1) := by decide +kernel
theorem dL_law_497 : decode cL_law 497 = .ok (.iload_n 3, 1) := by decide +kernel
theorem dL_law_498 : decode cL_law 498 = .ok (.iconst 1, 1) := by decide +kernel
theorem dL_law_499 : decode cL_law 499 = .ok (.iadd, 1) := by decide +kernel
theorem dL_law_500 : decode cL_law 500 = .ok (.iaload, 1) := by decide +kernel
theorem dL_law_501 : decode cL_law 501 = .ok (.aload_n 0, 1) := by decide +kernel
theorem dL_law_502 : decode cL_law 502 = .ok (.iload_n 3, 1) := by decide +kernel
theorem dL_law_503 : decode cL_law 503 = .ok (.iconst 2, 1) := by decide +kernel
theorem dL_law_504 : decode cL_law 504 = .ok (.iadd, 1) := by decide +kernel
theorem dL_law_505 : decode cL_law 505 = .ok (.iaload, 1) := by decide +kernel
theorem dL_law_506 : decode cL_law 506 = .ok (.invokevirtual 76, 3) := by decide +kernel
theorem dL_law_509 : decode cL_law 509 = .ok (.aload_n 2, 1) := by decide +kernel
theorem dL_law_510 : decode cL_law 510 = .ok (.aload_n 0, 1) := by decide +kernel
theorem dL_law_511 : decode cL_law 511 = .ok (.iload_n 3, 1) := by decide +kernel
theorem dL_law_512 : decode cL_law 512 = .ok (.iconst 1, 1) := by decide +kernel
theorem dL_law_513 : decode cL_law 513 = .ok (.iadd, 1) := by decide +kernel
theorem dL_law_514 : decode cL_law 514 = .ok (.iaload, 1) := by decide +kernel
theorem dL_law_515 : decode cL_law 515 = .ok (.aload_n 0, 1) := by decide +kernel
theorem dL_law_516 : decode cL_law 516 = .ok (.iload_n 3, 1) := by decide +kernel
theorem dL_law_517 : decode cL_law 517 = .ok (.iconst 2, 1) := by decide +kernel
theorem dL_law_518 : decode cL_law 518 = .ok (.iadd, 1) := by decide +kernel
theorem dL_law_519 : decode cL_law 519 = .ok (.iaload, 1) := by decide +kernel
theorem dL_law_520 : decode cL_law 520 = .ok (.invokevirtual 79, 3) := by decide +kernel
theorem dL_law_523 : decode cL_law 523 = .ok (.if_icmp .eq 309, 3) := by decide +kernel
theorem dL_law_526 : decode cL_law 526 = .ok (.iconst 0, 1) := by decide +kernel
theorem dL_law_527 : decode cL_law 527 = .ok (.ireturn, 1) := by decide +kernel
theorem dL_law_528 : decode cL_law 528 = .ok (.aload_n 1, 1) := by decide +kernel
theorem dL_law_529 : decode cL_law 529 = .ok (.aload_n 0, 1) := by decide +kernel
theorem dL_law_530 : decode cL_law 530 = .ok (.iload_n 3, 1) := by decide +kernel
theorem dL_law_531 : decode cL_law 531 = .ok (.iconst 1, 1) := by decide +kernel
theorem dL_law_532 : decode cL_law 532 = .ok (.iadd, 1) := by decide +kernel
theorem dL_law_533 : decode cL_law 533 = .ok (.iaload, 1) := by decide +kernel
theorem dL_law_534 : decode cL_law 534 = .ok (.aload_n 0, 1) := by decide +kernel
theorem dL_law_535 : decode cL_law 535 = .ok (.iload_n 3, 1) := by decide +kernel
theorem dL_law_536 : decode cL_law 536 = .ok (.iconst 2, 1) := by decide +kernel
theorem dL_law_537 : decode cL_law 537 = .ok (.iadd, 1) := by decide +kernel
theorem dL_law_538 : decode cL_law 538 = .ok (.iaload, 1) := by decide +kernel
theorem dL_law_539 : decode cL_law 539 = .ok (.invokevirtual 80, 3) := by decide +kernel
theorem dL_law_542 : decode cL_law 542 = .ok (.aload_n 2, 1) := by decide +kernel
theorem dL_law_543 : decode cL_law 543 = .ok (.aload_n 0, 1) := by decide +kernel
theorem dL_law_544 : decode cL_law 544 = .ok (.iload_n 3, 1) := by decide +kernel
theorem dL_law_545 : decode cL_law 545 = .ok (.iconst 1, 1) := by decide +kernel
theorem dL_law_546 : decode cL_law 546 = .ok (.iadd, 1) := by decide +kernel
theorem dL_law_547 : decode cL_law 547 = .ok (.iaload, 1) := by decide +kernel
theorem dL_law_548 : decode cL_law 548 = .ok (.aload_n 0, 1) := by decide +kernel
theorem dL_law_549 : decode cL_law 549 = .ok (.iload_n 3, 1) := by decide +kernel
theorem dL_law_550 : decode cL_law 550 = .ok (.iconst 2, 1) := by decide +kernel
theorem dL_law_551 : decode cL_law 551 = .ok (.iadd, 1) := by decide +kernel
theorem dL_law_552 : decode cL_law 552 = .ok (.iaload, 1) := by decide +kernel
theorem dL_law_553 : decode cL_law 553 = .ok (.invokevirtual 83, 3) := by decide +kernel
theorem dL_law_556 : decode cL_law 556 = .ok (.if_icmp .eq 276, 3) := by decide +kernel
theorem dL_law_559 : decode cL_law 559 = .ok (.iconst 0, 1) := by decide +kernel
theorem dL_law_560 : decode cL_law 560 = .ok (.ireturn, 1) := by decide +kernel
theorem dL_law_561 : decode cL_law 561 = .ok (.aload_n 1, 1) := by decide +kernel
theorem dL_law_562 : decode cL_law 562 = .ok (.aload_n 0, 1) := by decide +kernel
theorem dL_law_563 : decode cL_law 563 = .ok (.iload_n 3, 1) := by decide +kernel
theorem dL_law_564 : decode cL_law 564 = .ok (.iconst 1, 1) := by decide +kernel
theorem dL_law_565 : decode cL_law 565 = .ok (.iadd, 1) := by decide +kernel
theorem dL_law_566 : decode cL_law 566 = .ok (.iaload, 1) := by decide +kernel
theorem dL_law_567 : decode cL_law 567 = .ok (.aload_n 0, 1) := by decide +kernel
theorem dL_law_568 : decode cL_law 568 = .ok (.iload_n 3, 1) := by decide +kernel
theorem dL_law_569 : decode cL_law 569 = .ok (.iconst 2, 1) := by decide +kernel
theorem dL_law_570 : decode cL_law 570 = .ok (.iadd, 1) := by decide +kernel
theorem dL_law_571 : decode cL_law 571 = .ok (.iaload, 1) := by decide +kernel
theorem dL_law_572 : decode cL_law 572 = .ok (.invokevirtual 84, 3) := by decide +kernel
theorem dL_law_575 : decode cL_law 575 = .ok (.aload_n 2, 1) := by decide +kernel
theorem dL_law_576 : decode cL_law 576 = .ok (.aload_n 0, 1) := by decide +kernel
theorem dL_law_577 : decode cL_law 577 = .ok (.iload_n 3, 1) := by decide +kernel
theorem dL_law_578 : decode cL_law 578 = .ok (.iconst 1, 1) := by decide +kernel
theorem dL_law_579 : decode cL_law 579 = .ok (.iadd, 1) := by decide +kernel
theorem dL_law_580 : decode cL_law 580 = .ok (.iaload, 1) := by decide +kernel
theorem dL_law_581 : decode cL_law 581 = .ok (.aload_n 0, 1) := by decide +kernel
theorem dL_law_582 : decode cL_law 582 = .ok (.iload_n 3, 1) := by decide +kernel
theorem dL_law_583 : decode cL_law 583 = .ok (.iconst 2, 1) := by decide +kernel
theorem dL_law_584 : decode cL_law 584 = .ok (.iadd, 1) := by decide +kernel
theorem dL_law_585 : decode cL_law 585 = .ok (.iaload, 1) := by decide +kernel
theorem dL_law_586 : decode cL_law 586 = .ok (.invokevirtual 87, 3) := by decide +kernel
theorem dL_law_589 : decode cL_law 589 = .ok (.if_icmp .eq 243, 3) := by decide +kernel
theorem dL_law_592 : decode cL_law 592 = .ok (.iconst 0, 1) := by decide +kernel
theorem dL_law_593 : decode cL_law 593 = .ok (.ireturn, 1) := by decide +kernel
theorem dL_law_594 : decode cL_law 594 = .ok (.aload_n 1, 1) := by decide +kernel
theorem dL_law_595 : decode cL_law 595 = .ok (.aload_n 0, 1) := by decide +kernel
theorem dL_law_596 : decode cL_law 596 = .ok (.iload_n 3, 1) := by decide +kernel
theorem dL_law_597 : decode cL_law 597 = .ok (.iconst 1, 1) := by decide +kernel
theorem dL_law_598 : decode cL_law 598 = .ok (.iadd, 1) := by decide +kernel
theorem dL_law_599 : decode cL_law 599 = .ok (.iaload, 1) := by decide +kernel
theorem dL_law_600 : decode cL_law 600 = .ok (.invokevirtual 88, 3) := by decide +kernel
theorem dL_law_603 : decode cL_law 603 = .ok (.aload_n 2, 1) := by decide +kernel
theorem dL_law_604 : decode cL_law 604 = .ok (.aload_n 0, 1) := by decide +kernel
theorem dL_law_605 : decode cL_law 605 = .ok (.iload_n 3, 1) := by decide +kernel
theorem dL_law_606 : decode cL_law 606 = .ok (.iconst 1, 1) := by decide +kernel
theorem dL_law_607 : decode cL_law 607 = .ok (.iadd, 1) := by decide +kernel
theorem dL_law_608 : decode cL_law 608 = .ok (.iaload, 1) := by decide +kernel
theorem dL_law_609 : decode cL_law 609 = .ok (.invokevirtual 91, 3) := by decide +kernel
theorem dL_law_612 : decode cL_law 612 = .ok (.if_icmp .eq 220, 3) := by decide +kernel
theorem dL_law_615 : decode cL_law 615 = .ok (.iconst 0, 1) := by decide +kernel
theorem dL_law_616 : decode cL_law 616 = .ok (.ireturn, 1) := by decide +kernel
theorem dL_law_617 : decode cL_law 617 = .ok (.aload_n 1, 1) := by decide +kernel
theorem dL_law_618 : decode cL_law 618 = .ok (.aload_n 0, 1) := by decide +kernel
theorem dL_law_619 : decode cL_law 619 = .ok (.iload_n 3, 1) := by decide +kernel
theorem dL_law_620 : decode cL_law 620 = .ok (.iconst 1, 1) := by decide +kernel
theorem dL_law_621 : decode cL_law 621 = .ok (.iadd, 1) := by decide +kernel
theorem dL_law_622 : decode cL_law 622 = .ok (.iaload, 1) := by decide +kernel
theorem dL_law_623 : decode cL_law 623 = .ok (.aload_n 0, 1) := by decide +kernel
theorem dL_law_624 : decode cL_law 624 = .ok (.iload_n 3, 1) := by decide +kernel
theorem dL_law_625 : decode cL_law 625 = .ok (.iconst 2, 1) := by decide +kernel
theorem dL_law_626 : decode cL_law 626 = .ok (.iadd, 1) := by decide +kernel
theorem dL_law_627 : decode cL_law 627 = .ok (.iaload, 1) := by decide +kernel
theorem dL_law_628 : decode cL_law 628 = .ok (.invokevirtual 92, 3) := by decide +kernel
theorem dL_law_631 : decode cL_law 631 = .ok (.aload_n 2, 1) := by decide +kernel
theorem dL_law_632 : decode cL_law 632 = .ok (.aload_n 0, 1) := by decide +kernel
theorem dL_law_633 : decode cL_law 633 = .ok (.iload_n 3, 1) := by decide +kernel
theorem dL_law_634 : decode cL_law 634 = .ok (.iconst 1, 1) := by decide +kernel
theorem dL_law_635 : decode cL_law 635 = .ok (.iadd, 1) := by decide +kernel
theorem dL_law_636 : decode cL_law 636 = .ok (.iaload, 1) := by decide +kernel
theorem dL_law_637 : decode cL_law 637 = .ok (.aload_n 0, 1) := by decide +kernel
theorem dL_law_638 : decode cL_law 638 = .ok (.iload_n 3, 1) := by decide +kernel
theorem dL_law_639 : decode cL_law 639 = .ok (.iconst 2, 1) := by decide +kernel
theorem dL_law_640 : decode cL_law 640 = .ok (.iadd, 1) := by decide +kernel
theorem dL_law_641 : decode cL_law 641 = .ok (.iaload, 1) := by decide +kernel
theorem dL_law_642 : decode cL_law 642 = .ok (.invokevirtual 95, 3) := by decide +kernel
theorem dL_law_645 : decode cL_law 645 = .ok (.if_icmp .eq 187, 3) := by decide +kernel
theorem dL_law_648 : decode cL_law 648 = .ok (.iconst 0, 1) := by decide +kernel
theorem dL_law_649 : decode cL_law 649 = .ok (.ireturn, 1) := by decide +kernel
theorem dL_law_650 : decode cL_law 650 = .ok (.aload_n 1, 1) := by decide +kernel
theorem dL_law_651 : decode cL_law 651 = .ok (.aload_n 0, 1) := by decide +kernel
theorem dL_law_652 : decode cL_law 652 = .ok (.iload_n 3, 1) := by decide +kernel
theorem dL_law_653 : decode cL_law 653 = .ok (.iconst 1, 1) := by decide +kernel
theorem dL_law_654 : decode cL_law 654 = .ok (.iadd, 1) := by decide +kernel
theorem dL_law_655 : decode cL_law 655 = .ok (.iaload, 1) := by decide +kernel
theorem dL_law_656 : decode cL_law 656 = .ok (.invokevirtual 96, 3) := by decide +kernel
theorem dL_law_659 : decode cL_law 659 = .ok (.aload_n 2, 1) := by decide +kernel
theorem dL_law_660 : decode cL_law 660 = .ok (.aload_n 0, 1) := by decide +kernel
theorem dL_law_661 : decode cL_law 661 = .ok (.iload_n 3, 1) := by decide +kernel
theorem dL_law_662 : decode cL_law 662 = .ok (.iconst 1, 1) := by decide +kernel
theorem dL_law_663 : decode cL_law 663 = .ok (.iadd, 1) := by decide +kernel
theorem dL_law_664 : decode cL_law 664 = .ok (.iaload, 1) := by decide +kernel
theorem dL_law_665 : decode cL_law 665 = .ok (.invokevirtual 99, 3) := by decide +kernel
theorem dL_law_668 : decode cL_law 668 = .ok (.if_icmp .eq 164, 3) := by decide +kernel
theorem dL_law_671 : decode cL_law 671 = .ok (.iconst 0, 1) := by decide +kernel
theorem dL_law_672 : decode cL_law 672 = .ok (.ireturn, 1) := by decide +kernel
theorem dL_law_673 : decode cL_law 673 = .ok (.aload_n 1, 1) := by decide +kernel
theorem dL_law_674 : decode cL_law 674 = .ok (.invokevirtual 100, 3) := by decide +kernel
theorem dL_law_677 : decode cL_law 677 = .ok (.dstore 4, 2) := by decide +kernel
theorem dL_law_679 : decode cL_law 679 = .ok (.aload_n 2, 1) := by decide +kernel
theorem dL_law_680 : decode cL_law 680 = .ok (.invokevirtual 104, 3) := by decide +kernel
theorem dL_law_683 : decode cL_law 683 = .ok (.dstore 6, 2) := by decide +kernel
theorem dL_law_685 : decode cL_law 685 = .ok (.dload 4, 2) := by decide +kernel
theorem dL_law_687 : decode cL_law 687 = .ok (.dload 6, 2) := by decide +kernel
theorem dL_law_689 : decode cL_law 689 = .ok (.dcmp .l, 1) := by decide +kernel
theorem dL_law_690 : decode cL_law 690 = .ok (.ifCond .eq 21, 3) := by decide +kernel
theorem dL_law_693 : decode cL_law 693 = .ok (.dload 4, 2) := by decide +kernel
theorem dL_law_695 : decode cL_law 695 = .ok (.dload 4, 2) := by decide +kernel
theorem dL_law_697 : decode cL_law 697 = .ok (.dcmp .l, 1) := by decide +kernel
theorem dL_law_698 : decode cL_law 698 = .ok (.ifCond .eq 11, 3) := by decide +kernel
theorem dL_law_701 : decode cL_law 701 = .ok (.dload 6, 2) := by decide +kernel
theorem dL_law_703 : decode cL_law 703 = .ok (.dload 6, 2) := by decide +kernel
theorem dL_law_705 : decode cL_law 705 = .ok (.dcmp .l, 1) := by decide +kernel
theorem dL_law_706 : decode cL_law 706 = .ok (.ifCond .ne 5, 3) := by decide +kernel
theorem dL_law_709 : decode cL_law 709 = .ok (.iconst 0, 1) := by decide +kernel
theorem dL_law_710 : decode cL_law 710 = .ok (.ireturn, 1) := by decide +kernel
theorem dL_law_711 : decode cL_law 711 = .ok (.goto 121, 3) := by decide +kernel
theorem dL_law_714 : decode cL_law 714 = .ok (.aload_n 1, 1) := by decide +kernel
theorem dL_law_715 : decode cL_law 715 = .ok (.aload_n 0, 1) := by decide +kernel
theorem dL_law_716 : decode cL_law 716 = .ok (.iload_n 3, 1) := by decide +kernel
theorem dL_law_717 : decode cL_law 717 = .ok (.iconst 1, 1) := by decide +kernel
theorem dL_law_718 : decode cL_law 718 = .ok (.iadd, 1) := by decide +kernel
theorem dL_law_719 : decode cL_law 719 = .ok (.iaload, 1) := by decide +kernel
theorem dL_law_720 : decode cL_law 720 = .ok (.invokevirtual 105, 3) := by decide +kernel
theorem dL_law_723 : decode cL_law 723 = .ok (.aload_n 2, 1) := by decide +kernel
theorem dL_law_724 : decode cL_law 724 = .ok (.aload_n 0, 1) := by decide +kernel
theorem dL_law_725 : decode cL_law 725 = .ok (.iload_n 3, 1) := by decide +kernel
theorem dL_law_726 : decode cL_law 726 = .ok (.iconst 1, 1) := by decide +kernel
theorem dL_law_727 : decode cL_law 727 = .ok (.iadd, 1) := by decide +kernel
theorem dL_law_728 : decode cL_law 728 = .ok (.iaload, 1) := by decide +kernel
theorem dL_law_729 : decode cL_law 729 = .ok (.invokevirtual 108, 3) := by decide +kernel
theorem dL_law_732 : decode cL_law 732 = .ok (.if_icmp .eq 100, 3) := by decide +kernel
theorem dL_law_735 : decode cL_law 735 = .ok (.iconst 0, 1) := by decide +kernel
theorem dL_law_736 : decode cL_law 736 = .ok (.ireturn, 1) := by decide +kernel
theorem dL_law_737 : decode cL_law 737 = .ok (.aload_n 1, 1) := by decide +kernel
theorem dL_law_738 : decode cL_law 738 = .ok (.aload_n 0, 1) := by decide +kernel
theorem dL_law_739 : decode cL_law 739 = .ok (.iload_n 3, 1) := by decide +kernel
theorem dL_law_740 : decode cL_law 740 = .ok (.iconst 1, 1) := by decide +kernel
theorem dL_law_741 : decode cL_law 741 = .ok (.iadd, 1) := by decide +kernel
theorem dL_law_742 : decode cL_law 742 = .ok (.iaload, 1) := by decide +kernel
theorem dL_law_743 : decode cL_law 743 = .ok (.aload_n 0, 1) := by decide +kernel
theorem dL_law_744 : decode cL_law 744 = .ok (.iload_n 3, 1) := by decide +kernel
theorem dL_law_745 : decode cL_law 745 = .ok (.iconst 2, 1) := by decide +kernel
theorem dL_law_746 : decode cL_law 746 = .ok (.iadd, 1) := by decide +kernel
theorem dL_law_747 : decode cL_law 747 = .ok (.iaload, 1) := by decide +kernel
theorem dL_law_748 : decode cL_law 748 = .ok (.invokevirtual 109, 3) := by decide +kernel
theorem dL_law_751 : decode cL_law 751 = .ok (.aload_n 2, 1) := by decide +kernel
theorem dL_law_752 : decode cL_law 752 = .ok (.aload_n 0, 1) := by decide +kernel
theorem dL_law_753 : decode cL_law 753 = .ok (.iload_n 3, 1) := by decide +kernel
theorem dL_law_754 : decode cL_law 754 = .ok (.iconst 1, 1) := by decide +kernel
theorem dL_law_755 : decode cL_law 755 = .ok (.iadd, 1) := by decide +kernel
theorem dL_law_756 : decode cL_law 756 = .ok (.iaload, 1) := by decide +kernel
theorem dL_law_757 : decode cL_law 757 = .ok (.aload_n 0, 1) := by decide +kernel
theorem dL_law_758 : decode cL_law 758 = .ok (.iload_n 3, 1) := by decide +kernel
theorem dL_law_759 : decode cL_law 759 = .ok (.iconst 2, 1) := by decide +kernel
theorem dL_law_760 : decode cL_law 760 = .ok (.iadd, 1) := by decide +kernel
theorem dL_law_761 : decode cL_law 761 = .ok (.iaload, 1) := by decide +kernel
theorem dL_law_762 : decode cL_law 762 = .ok (.invokevirtual 112, 3) := by decide +kernel
theorem dL_law_765 : decode cL_law 765 = .ok (.if_icmp .eq 67, 3) := by decide +kernel
theorem dL_law_768 : decode cL_law 768 = .ok (.iconst 0, 1) := by decide +kernel
theorem dL_law_769 : decode cL_law 769 = .ok (.ireturn, 1) := by decide +kernel
theorem dL_law_770 : decode cL_law 770 = .ok (.aload_n 1, 1) := by decide +kernel
theorem dL_law_771 : decode cL_law 771 = .ok (.aload_n 0, 1) := by decide +kernel
theorem dL_law_772 : decode cL_law 772 = .ok (.iload_n 3, 1) := by decide +kernel
theorem dL_law_773 : decode cL_law 773 = .ok (.iconst 1, 1) := by decide +kernel
theorem dL_law_774 : decode cL_law 774 = .ok (.iadd, 1) := by decide +kernel
theorem dL_law_775 : decode cL_law 775 = .ok (.iaload, 1) := by decide +kernel
theorem dL_law_776 : decode cL_law 776 = .ok (.invokevirtual 113, 3) := by decide +kernel
theorem dL_law_779 : decode cL_law 779 = .ok (.aload_n 2, 1) := by decide +kernel
theorem dL_law_780 : decode cL_law 780 = .ok (.aload_n 0, 1) := by decide +kernel
theorem dL_law_781 : decode cL_law 781 = .ok (.iload_n 3, 1) := by decide +kernel
theorem dL_law_782 : decode cL_law 782 = .ok (.iconst 1, 1) := by decide +kernel
theorem dL_law_783 : decode cL_law 783 = .ok (.iadd, 1) := by decide +kernel
theorem dL_law_784 : decode cL_law 784 = .ok (.iaload, 1) := by decide +kernel
theorem dL_law_785 : decode cL_law 785 = .ok (.invokevirtual 116, 3) := by decide +kernel
theorem dL_law_788 : decode cL_law 788 = .ok (.if_icmp .eq 44, 3) := by decide +kernel
theorem dL_law_791 : decode cL_law 791 = .ok (.iconst 0, 1) := by decide +kernel
theorem dL_law_792 : decode cL_law 792 = .ok (.ireturn, 1) := by decide +kernel
theorem dL_law_793 : decode cL_law 793 = .ok (.aload_n 1, 1) := by decide +kernel
theorem dL_law_794 : decode cL_law 794 = .ok (.invokevirtual 117, 3) := by decide +kernel
theorem dL_law_797 : decode cL_law 797 = .ok (.aload_n 2, 1) := by decide +kernel
theorem dL_law_798 : decode cL_law 798 = .ok (.invokevirtual 120, 3) := by decide +kernel
theorem dL_law_801 : decode cL_law 801 = .ok (.if_icmp .eq 31, 3) := by decide +kernel
theorem dL_law_804 : decode cL_law 804 = .ok (.iconst 0, 1) := by decide +kernel
theorem dL_law_805 : decode cL_law 805 = .ok (.ireturn, 1) := by decide +kernel
theorem dL_law_806 : decode cL_law 806 = .ok (.aload_n 1, 1) := by decide +kernel
theorem dL_law_807 : decode cL_law 807 = .ok (.invokevirtual 121, 3) := by decide +kernel
theorem dL_law_810 : decode cL_law 810 = .ok (.aload_n 2, 1) := by decide +kernel
theorem dL_law_811 : decode cL_law 811 = .ok (.invokevirtual 124, 3) := by decide +kernel
theorem dL_law_814 : decode cL_law 814 = .ok (.if_icmp .eq 18, 3) := by decide +kernel
theorem dL_law_817 : decode cL_law 817 = .ok (.iconst 0, 1) := by decide +kernel
theorem dL_law_818 : decode cL_law 818 = .ok (.ireturn, 1) := by decide +kernel
theorem dL_law_819 : decode cL_law 819 = .ok (.aload_n 1, 1) := by decide +kernel
theorem dL_law_820 : decode cL_law 820 = .ok (.invokevirtual 125, 3) := by decide +kernel
theorem dL_law_823 : decode cL_law 823 = .ok (.aload_n 2, 1) := by decide +kernel
theorem dL_law_824 : decode cL_law 824 = .ok (.invokevirtual 128, 3) := by decide +kernel
theorem dL_law_827 : decode cL_law 827 = .ok (.if_icmp .eq 5, 3) := by decide +kernel
theorem dL_law_830 : decode cL_law 830 = .ok (.iconst 0, 1) := by decide +kernel
theorem dL_law_831 : decode cL_law 831 = .ok (.ireturn, 1) := by decide +kernel
theorem dL_law_832 : decode cL_law 832 = .ok (.iinc 3 3, 3) := by decide +kernel
theorem dL_law_835 : decode cL_law 835 = .ok (.goto (-817), 3) := by decide +kernel
theorem dL_law_838 : decode cL_law 838 = .ok (.iconst 1, 1) := by decide +kernel
theorem dL_law_839 : decode cL_law 839 = .ok (.ireturn, 1) := by decide +kernel
