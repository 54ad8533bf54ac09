theorem dX8_day_33 : decode cX8_day 33 = .ok (.aload_n 0, 1) := by decide +kernel
theorem dX8_day_34 : decode cX8_day 34 = .ok (.aload_n 2, 1) := by decide +kernel
theorem dX8_day_35 : decode cX8_day 35 = .ok (.putfield 33, 3) := by decide +kernel
theorem dX8_day_38 : decode cX8_day 38 = .ok (.iload_n 1, 1) := by decide +kernel
theorem dX8_day_39 : decode cX8_day 39 = .ok (.ireturn, 1) := by decide +kernel
theorem dX8_caller_0 : decode cX8_caller 0 = .ok (.aload_n 0, 1) := by decide +kernel
theorem dX8_caller_1 : decode cX8_caller 1 = .ok (.iload_n 1, 1) := by decide +kernel
theorem dX8_caller_2 : decode cX8_caller 2 = .ok (.invokevirtual 96, 3) := by decide +kernel
theorem dX8_caller_5 : decode cX8_caller 5 = .ok (.ifCond .ne 6, 3) := by decide +kernel
theorem dX8_caller_8 : decode cX8_caller 8 = .ok (.bipush (-2), 2) := by decide +kernel
theorem dX8_caller_10 : decode cX8_caller 10 = .ok (.ireturn, 1) := by decide +kernel
theorem dX8_caller_11 : decode cX8_caller 11 = .ok (.iload_n 2, 1) := by decide +kernel
theorem dX8_caller_12 : decode cX8_caller 12 = .ok (.tableswitch 115 0 6 #[44, 54, 64, 74, 84, 96, 105], 44) := by decide +kernel
theorem dX8_caller_56 : decode cX8_caller 56 = .ok (.aload_n 0, 1) := by decide +kernel
theorem dX8_caller_57 : decode cX8_caller 57 = .ok (.getfield 19, 3) := by decide +kernel
theorem dX8_caller_60 : decode cX8_caller 60 = .ok (.getfield 100, 3) := by decide +kernel
theorem dX8_caller_63 : decode cX8_caller 63 = .ok (.iload_n 1, 1) := by decide +kernel
theorem dX8_caller_64 : decode cX8_caller 64 = .ok (.iaload, 1) := by decide +kernel
theorem dX8_caller_65 : decode cX8_caller 65 = .ok (.ireturn, 1) := by decide +kernel
theorem dX8_caller_66 : decode cX8_caller 66 = .ok (.aload_n 0, 1) := by decide +kernel
theorem dX8_caller_67 : decode cX8_caller 67 = .ok (.getfield 19, 3) := by decide +kernel
theorem dX8_caller_70 : decode cX8_caller 70 = .ok (.getfield 103, 3) := by decide +kernel
theorem dX8_caller_73 : decode cX8_caller 73 = .ok (.iload_n 1, 1) := by decide +kernel
theorem dX8_caller_74 : decode cX8_caller 74 = .ok (.iaload, 1) := by decide +kernel
theorem dX8_caller_75 : decode cX8_caller 75 = .ok (.ireturn, 1) := by decide +kernel
theorem dX8_caller_76 : decode cX8_caller 76 = .ok (.aload_n 0, 1) := by decide +kernel
theorem dX8_caller_77 : decode cX8_caller 77 = .ok (.getfield 19, 3) := by decide +kernel
theorem dX8_caller_80 : decode cX8_caller 80 = .ok (.getfield 106, 3) := by decide +kernel
theorem dX8_caller_83 : decode cX8_caller 83 = .ok (.iload_n 1, 1) := by decide +kernel
theorem dX8_caller_84 : decode cX8_caller 84 = .ok (.iaload, 1) := by decide +kernel
theorem dX8_caller_85 : decode cX8_caller 85 = .ok (.ireturn, 1) := by decide +kernel
theorem dX8_caller_86 : decode cX8_caller 86 = .ok (.aload_n 0, 1) := by decide +kernel
theorem dX8_caller_87 : decode cX8_caller 87 = .ok (.getfield 39, 3) := by decide +kernel
theorem dX8_caller_90 : decode cX8_caller 90 = .ok (.getfield 109, 3) := by decide +kernel
theorem dX8_caller_93 : decode cX8_caller 93 = .ok (.iload_n 1, 1) := by decide +kernel
theorem dX8_caller_94 : decode cX8_caller 94 = .ok (.iaload, 1) := by decide +kernel
theorem dX8_caller_95 : decode cX8_caller 95 = .ok (.ireturn, 1) := by decide +kernel
theorem dX8_caller_96 : decode cX8_caller 96 = .ok (.aload_n 0, 1) := by decide +kernel
theorem dX8_caller_97 : decode cX8_caller 97 = .ok (.getfield 39, 3) := by decide +kernel
theorem dX8_caller_100 : decode cX8_caller 100 = .ok (.getfield 112, 3) := by decide +kernel
theorem dX8_caller_103 : decode cX8_caller 103 = .ok (.iload_n 1, 1) := by decide +kernel
theorem dX8_caller_104 : decode cX8_caller 104 = .ok (.ishr, 1) := by decide +kernel
theorem dX8_caller_105 : decode cX8_caller 105 = .ok (.iconst 1, 1) := by decide +kernel
theorem dX8_caller_106 : decode cX8_caller 106 = .ok (.iand, 1) := by decide +kernel
theorem dX8_caller_107 : decode cX8_caller 107 = .ok (.ireturn, 1) := by decide +kernel
theorem dX8_caller_108 : decode cX8_caller 108 = .ok (.aload_n 0, 1) := by decide +kernel
theorem dX8_caller_109 : decode cX8_caller 109 = .ok (.getfield 39, 3) := by decide +kernel
theorem dX8_caller_112 : decode cX8_caller 112 = .ok (.iload_n 1, 1) := by decide +kernel
theorem dX8_caller_113 : decode cX8_caller 113 = .ok (.invokevirtual 115, 3) := by decide +kernel
theorem dX8_caller_116 : decode cX8_caller 116 = .ok (.ireturn, 1) := by decide +kernel
theorem dX8_caller_117 : decode cX8_caller 117 = .ok (.aload_n 0, 1) := by decide +kernel
theorem dX8_caller_118 : decode cX8_caller 118 = .ok (.getfield 39, 3) := by decide +kernel
theorem dX8_caller_121 : decode cX8_caller 121 = .ok (.getfield 119, 3) := by decide +kernel
theorem dX8_caller_124 : decode cX8_caller 124 = .ok (.iload_n 1, 1) := by decide +kernel
theorem dX8_caller_125 : decode cX8_caller 125 = .ok (.iaload, 1) := by decide +kernel
theorem dX8_caller_126 : decode cX8_caller 126 = .ok (.ireturn, 1) := by decide +kernel
theorem dX8_caller_127 : decode cX8_caller 127 = .ok (.bipush (-2), 2) := by decide +kernel
theorem dX8_caller_129 : decode cX8_caller 129 = .ok (.ireturn, 1) := by decide +kernel
theorem dX8_met_0 : decode cX8_met 0 = .ok (.aload_n 0, 1) := by decide +kernel
theorem dX8_met_1 : decode cX8_met 1 = .ok (.iload_n 1, 1) := by decide +kernel
theorem dX8_met_2 : decode cX8_met 2 = .ok (.iload_n 2, 1) := by decide +kernel
theorem dX8_met_3 : decode cX8_met 3 = .ok (.invokevirtual 122, 3) := by decide +kernel
theorem dX8_met_6 : decode cX8_met 6 = .ok (.ifCond .eq 20, 3) := by decide +kernel
theorem dX8_met_9 : decode cX8_met 9 = .ok (.aload_n 0, 1) := by decide +kernel
theorem dX8_met_10 : decode cX8_met 10 = .ok (.getfield 39, 3) := by decide +kernel
theorem dX8_met_13 : decode cX8_met 13 = .ok (.getfield 126, 3) := by decide +kernel
theorem dX8_met_16 : decode cX8_met 16 = .ok (.iload_n 1, 1) := by decide +kernel
theorem dX8_met_17 : decode cX8_met 17 = .ok (.bipush 6, 2) := by decide +kernel
theorem dX8_met_19 : decode cX8_met 19 = .ok (.imul, 1) := by decide +kernel
theorem dX8_met_20 : decode cX8_met 20 = .ok (.iload_n 2, 1) := by decide +kernel
theorem dX8_met_21 : decode cX8_met 21 = .ok (.iadd, 1) := by decide +kernel
theorem dX8_met_22 : decode cX8_met 22 = .ok (.iaload, 1) := by decide +kernel
theorem dX8_met_23 : decode cX8_met 23 = .ok (.goto 4, 3) := by decide +kernel
theorem dX8_met_26 : decode cX8_met 26 = .ok (.iconst (-1), 1) := by decide +kernel
theorem dX8_met_27 : decode cX8_met 27 = .ok (.ireturn, 1) := by decide +kernel
theorem dX8_line_0 : decode cX8_line 0 = .ok (.iload_n 1, 1) := by decide +kernel
theorem dX8_line_1 : decode cX8_line 1 = .ok (.ifCond .lt 26, 3) := by decide +kernel
theorem dX8_line_4 : decode cX8_line 4 = .ok (.iload_n 1, 1) := by decide +kernel
theorem dX8_line_5 : decode cX8_line 5 = .ok (.aload_n 0, 1) := by decide +kernel
theorem dX8_line_6 : decode cX8_line 6 = .ok (.getfield 39, 3) := by decide +kernel
theorem dX8_line_9 : decode cX8_line 9 = .ok (.getfield 129, 3) := by decide +kernel
theorem dX8_line_12 : decode cX8_line 12 = .ok (.if_icmp .ge 15, 3) := by decide +kernel
theorem dX8_line_15 : decode cX8_line 15 = .ok (.aload_n 0, 1) := by decide +kernel
theorem dX8_line_16 : decode cX8_line 16 = .ok (.getfield 39, 3) := by decide +kernel
theorem dX8_line_19 : decode cX8_line 19 = .ok (.getfield 130, 3) := by decide +kernel
theorem dX8_line_22 : decode cX8_line 22 = .ok (.iload_n 1, 1) := by decide +kernel
theorem dX8_line_23 : decode cX8_line 23 = .ok (.iaload, 1) := by decide +kernel
theorem dX8_line_24 : decode cX8_line 24 = .ok (.goto 4, 3) := by decide +kernel
theorem dX8_line_27 : decode cX8_line 27 = .ok (.iconst (-1), 1) := by decide +kernel
theorem dX8_line_28 : decode cX8_line 28 = .ok (.ireturn, 1) := by decide +kernel
theorem dX8_ring_0 : decode cX8_ring 0 = .ok (.aload_n 0, 1) := by decide +kernel
theorem dX8_ring_1 : decode cX8_ring 1 = .ok (.iload_n 1, 1) := by decide +kernel
theorem dX8_ring_2 : decode cX8_ring 2 = .ok (.invokevirtual 96, 3) := by decide +kernel
theorem dX8_ring_5 : decode cX8_ring 5 = .ok (.ifCond .eq 14, 3) := by decide +kernel
theorem dX8_ring_8 : decode cX8_ring 8 = .ok (.aload_n 0, 1) := by decide +kernel
theorem dX8_ring_9 : decode cX8_ring 9 = .ok (.getfield 39, 3) := by decide +kernel
theorem dX8_ring_12 : decode cX8_ring 12 = .ok (.iload_n 1, 1) := by decide +kernel
theorem dX8_ring_13 : decode cX8_ring 13 = .ok (.invokevirtual 133, 3) := by decide +kernel
theorem dX8_ring_16 : decode cX8_ring 16 = .ok (.ifCond .ne 5, 3) := by decide +kernel
theorem dX8_ring_19 : decode cX8_ring 19 = .ok (.iconst (-1), 1) := by decide +kernel
theorem dX8_ring_20 : decode cX8_ring 20 = .ok (.ireturn, 1) := by decide +kernel
theorem dX8_ring_21 : decode cX8_ring 21 = .ok (.aload_n 0, 1) := by decide +kernel
theorem dX8_ring_22 : decode cX8_ring 22 = .ok (.invokevirtual 136, 3) := by decide +kernel
theorem dX8_ring_25 : decode cX8_ring 25 = .ok (.aload_n 0, 1) := by decide +kernel
theorem dX8_ring_26 : decode cX8_ring 26 = .ok (.getfield 39, 3) := by decide +kernel
theorem dX8_ring_29 : decode cX8_ring 29 = .ok (.iload_n 1, 1) := by decide +kernel
theorem dX8_ring_30 : decode cX8_ring 30 = .ok (.invokevirtual 139, 3) := by decide +kernel
theorem dX8_ring_33 : decode cX8_ring 33 = .ok (.aload_n 0, 1) := by decide +kernel
theorem dX8_ring_34 : decode cX8_ring 34 = .ok (.getfield 39, 3) := by decide +kernel
theorem dX8_ring_37 : decode cX8_ring 37 = .ok (.getfield 129, 3) := by decide +kernel
theorem dX8_ring_40 : decode cX8_ring 40 = .ok (.iconst 1, 1) := by decide +kernel
theorem dX8_ring_41 : decode cX8_ring 41 = .ok (.isub, 1) := by decide +kernel
theorem dX8_ring_42 : decode cX8_ring 42 = .ok (.ireturn, 1) := by decide +kernel
theorem dX8_off_0 : decode cX8_off 0 = .ok (.aload_n 0, 1) := by decide +kernel
theorem dX8_off_1 : decode cX8_off 1 = .ok (.iload_n 1, 1) := by decide +kernel
theorem dX8_off_2 : decode cX8_off 2 = .ok (.invokevirtual 143, 3) := by decide +kernel
theorem dX8_off_5 : decode cX8_off 5 = .ok (.ifCond .ne 5, 3) := by decide +kernel
theorem dX8_off_8 : decode cX8_off 8 = .ok (.iconst 0, 1) := by decide +kernel
theorem dX8_off_9 : decode cX8_off 9 = .ok (.ireturn, 1) := by decide +kernel
theorem dX8_off_10 : decode cX8_off 10 = .ok (.aload_n 0, 1) := by decide +kernel
theorem dX8_off_11 : decode cX8_off 11 = .ok (.invokevirtual 136, 3) := by decide +kernel
theorem dX8_off_14 : decode cX8_off 14 = .ok (.aload_n 0, 1) := by decide +kernel
theorem dX8_off_15 : decode cX8_off 15 = .ok (.getfield 39, 3) := by decide +kernel
theorem dX8_off_18 : decode cX8_off 18 = .ok (.iload_n 1, 1) := by decide +kernel
theorem dX8_off_19 : decode cX8_off 19 = .ok (.invokevirtual 146, 3) := by decide +kernel
theorem dX8_off_22 : decode cX8_off 22 = .ok (.iconst 1, 1) := by decide +kernel
theorem dX8_off_23 : decode cX8_off 23 = .ok (.ireturn, 1) := by decide +kernel
theorem dX8_swap_0 : decode cX8_swap 0 = .ok (.iload_n 1, 1) := by decide +kernel
theorem dX8_swap_1 : decode cX8_swap 1 = .ok (.iload_n 2, 1) := by decide +kernel
theorem dX8_swap_2 : decode cX8_swap 2 = .ok (.if_icmp .eq 19, 3) := by decide +kernel
theorem dX8_swap_5 : decode cX8_swap 5 = .ok (.aload_n 0, 1) := by decide +kernel
theorem dX8_swap_6 : decode cX8_swap 6 = .ok (.iload_n 1, 1) := by decide +kernel
theorem dX8_swap_7 : decode cX8_swap 7 = .ok (.invokevirtual 143, 3) := by decide +kernel
theorem dX8_swap_10 : decode cX8_swap 10 = .ok (.ifCond .eq 11, 3) := by decide +kernel
theorem dX8_swap_13 : decode cX8_swap 13 = .ok (.aload_n 0, 1) := by decide +kernel
theorem dX8_swap_14 : decode cX8_swap 14 = .ok (.iload_n 2, 1) := by decide +kernel
theorem dX8_swap_15 : decode cX8_swap 15 = .ok (.invokevirtual 143, 3) := by decide +kernel
theorem dX8_swap_18 : decode cX8_swap 18 = .ok (.ifCond .ne 5, 3) := by decide +kernel
theorem dX8_swap_21 : decode cX8_swap 21 = .ok (.iconst 0, 1) := by decide +kernel
theorem dX8_swap_22 : decode cX8_swap 22 = .ok (.ireturn, 1) := by decide +kernel
theorem dX8_swap_23 : decode cX8_swap 23 = .ok (.aload_n 0, 1) := by decide +kernel
theorem dX8_swap_24 : decode cX8_swap 24 = .ok (.invokevirtual 136, 3) := by decide +kernel
theorem dX8_swap_27 : decode cX8_swap 27 = .ok (.aload_n 0, 1) := by decide +kernel
theorem dX8_swap_28 : decode cX8_swap 28 = .ok (.getfield 39, 3) := by decide +kernel
theorem dX8_swap_31 : decode cX8_swap 31 = .ok (.iload_n 1, 1) := by decide +kernel
theorem dX8_swap_32 : decode cX8_swap 32 = .ok (.iload_n 2, 1) := by decide +kernel
theorem dX8_swap_33 : decode cX8_swap 33 = .ok (.invokevirtual 149, 3) := by decide +kernel
theorem dX8_swap_36 : decode cX8_swap 36 = .ok (.iconst 1, 1) := by decide +kernel
theorem dX8_swap_37 : decode cX8_swap 37 = .ok (.ireturn, 1) := by decide +kernel
theorem dX8_minute_0 : decode cX8_minute 0 = .ok (.aload_n 0, 1) := by decide +kernel
theorem dX8_minute_1 : decode cX8_minute 1 = .ok (.invokevirtual 136, 3) := by decide +kernel
theorem dX8_minute_4 : decode cX8_minute 4 = .ok (.aload_n 0, 1) := by decide +kernel
theorem dX8_minute_5 : decode cX8_minute 5 = .ok (.getfield 39, 3) := by decide +kernel
theorem dX8_minute_8 : decode cX8_minute 8 = .ok (.aload_n 0, 1) := by decide +kernel
theorem dX8_minute_9 : decode cX8_minute 9 = .ok (.getfield 19, 3) := by decide +kernel
theorem dX8_minute_12 : decode cX8_minute 12 = .ok (.aload_n 0, 1) := by decide +kernel
theorem dX8_minute_13 : decode cX8_minute 13 = .ok (.getfield 19, 3) := by decide +kernel
theorem dX8_minute_16 : decode cX8_minute 16 = .ok (.getfield 153, 3) := by decide +kernel
theorem dX8_minute_19 : decode cX8_minute 19 = .ok (.invokevirtual 156, 3) := by decide +kernel
theorem dX8_minute_22 : decode cX8_minute 22 = .ok (.ireturn, 1) := by decide +kernel
theorem dX8_undo_0 : decode cX8_undo 0 = .ok (.aload_n 0, 1) := by decide +kernel
theorem dX8_undo_1 : decode cX8_undo 1 = .ok (.getfield 160, 3) := by decide +kernel
theorem dX8_undo_4 : decode cX8_undo 4 = .ok (.ifCond .ne 5, 3) := by decide +kernel
theorem dX8_undo_7 : decode cX8_undo 7 = .ok (.iconst 0, 1) := by decide +kernel
theorem dX8_undo_8 : decode cX8_undo 8 = .ok (.ireturn, 1) := by decide +kernel
theorem dX8_undo_9 : decode cX8_undo 9 = .ok (.aload_n 0, 1) := by decide +kernel
theorem dX8_undo_10 : decode cX8_undo 10 = .ok (.dup, 1) := by decide +kernel
theorem dX8_undo_11 : decode cX8_undo 11 = .ok (.getfield 160, 3) := by decide +kernel
theorem dX8_undo_14 : decode cX8_undo 14 = .ok (.iconst 1, 1) := by decide +kernel
theorem dX8_undo_15 : decode cX8_undo 15 = .ok (.isub, 1) := by decide +kernel
theorem dX8_undo_16 : decode cX8_undo 16 = .ok (.putfield 160, 3) := by decide +kernel
theorem dX8_undo_19 : decode cX8_undo 19 = .ok (.aload_n 0, 1) := by decide +kernel
theorem dX8_undo_20 : decode cX8_undo 20 = .ok (.aload_n 0, 1) := by decide +kernel
theorem dX8_undo_21 : decode cX8_undo 21 = .ok (.getfield 163, 3) := by decide +kernel
theorem dX8_undo_24 : decode cX8_undo 24 = .ok (.bipush 16, 2) := by decide +kernel
theorem dX8_undo_26 : decode cX8_undo 26 = .ok (.iadd, 1) := by decide +kernel
theorem dX8_undo_27 : decode cX8_undo 27 = .ok (.iconst 1, 1) := by decide +kernel
theorem dX8_undo_28 : decode cX8_undo 28 = .ok (.isub, 1) := by decide +kernel
theorem dX8_undo_29 : decode cX8_undo 29 = .ok (.bipush 16, 2) := by decide +kernel
theorem dX8_undo_31 : decode cX8_undo 31 = .ok (.irem, 1) := by decide +kernel
theorem dX8_undo_32 : decode cX8_undo 32 = .ok (.putfield 163, 3) := by decide +kernel
theorem dX8_undo_35 : decode cX8_undo 35 = .ok (.aload_n 0, 1) := by decide +kernel
theorem dX8_undo_36 : decode cX8_undo 36 = .ok (.getfield 39, 3) := by decide +kernel
theorem dX8_undo_39 : decode cX8_undo 39 = .ok (.aload_n 0, 1) := by decide +kernel
theorem dX8_undo_40 : decode cX8_undo 40 = .ok (.getfield 46, 3) := by decide +kernel
theorem dX8_undo_43 : decode cX8_undo 43 = .ok (.aload_n 0, 1) := by decide +kernel
theorem dX8_undo_44 : decode cX8_undo 44 = .ok (.getfield 163, 3) := by decide +kernel
theorem dX8_undo_47 : decode cX8_undo 47 = .ok (.aaload, 1) := by decide +kernel
theorem dX8_undo_48 : decode cX8_undo 48 = .ok (.invokevirtual 166, 3) := by decide +kernel
theorem dX8_undo_51 : decode cX8_undo 51 = .ok (.aload_n 0, 1) := by decide +kernel
theorem dX8_undo_52 : decode cX8_undo 52 = .ok (.getfield 59, 3) := by decide +kernel
theorem dX8_undo_55 : decode cX8_undo 55 = .ok (.iconst 0, 1) := by decide +kernel
theorem dX8_undo_56 : decode cX8_undo 56 = .ok (.putfield 170, 3) := by decide +kernel
theorem dX8_undo_59 : decode cX8_undo 59 = .ok (.iconst 1, 1) := by decide +kernel
theorem dX8_undo_60 : decode cX8_undo 60 = .ok (.ireturn, 1) := by decide +kernel
theorem dX8_judged_0 : decode cX8_judged 0 = .ok (.iload_n 1, 1) := by decide +kernel
theorem dX8_judged_1 : decode cX8_judged 1 = .ok (.ifCond .lt 8, 3) := by decide +kernel
theorem dX8_judged_4 : decode cX8_judged 4 = .ok (.iload_n 1, 1) := by decide +kernel
theorem dX8_judged_5 : decode cX8_judged 5 = .ok (.iconst 2, 1) := by decide +kernel
theorem dX8_judged_6 : decode cX8_judged 6 = .ok (.if_icmp .le 8, 3) := by decide +kernel
theorem dX8_judged_9 : decode cX8_judged 9 = .ok (.bipush (-2), 2) := by decide +kernel
theorem dX8_judged_11 : decode cX8_judged 11 = .ok (.goto 15, 3) := by decide +kernel
theorem dX8_judged_14 : decode cX8_judged 14 = .ok (.aload_n 0, 1) := by decide +kernel
theorem dX8_judged_15 : decode cX8_judged 15 = .ok (.aload_n 0, 1) := by decide +kernel
theorem dX8_judged_16 : decode cX8_judged 16 = .ok (.getfield 19, 3) := by decide +kernel
theorem dX8_judged_19 : decode cX8_judged 19 = .ok (.getfield 153, 3) := by decide +kernel
theorem dX8_judged_22 : decode cX8_judged 22 = .ok (.iload_n 1, 1) := by decide +kernel
theorem dX8_judged_23 : decode cX8_judged 23 = .ok (.invokevirtual 174, 3) := by decide +kernel
theorem dX8_judged_26 : decode cX8_judged 26 = .ok (.ireturn, 1) := by decide +kernel
theorem dX8_next_0 : decode cX8_next 0 = .ok (.aload_n 0, 1) := by decide +kernel
theorem dX8_next_1 : decode cX8_next 1 = .ok (.iload_n 1, 1) := by decide +kernel
theorem dX8_next_2 : decode cX8_next 2 = .ok (.invokevirtual 143, 3) := by decide +kernel
theorem dX8_next_5 : decode cX8_next 5 = .ok (.ifCond .ne 5, 3) := by decide +kernel
theorem dX8_next_8 : decode cX8_next 8 = .ok (.iconst (-1), 1) := by decide +kernel
theorem dX8_next_9 : decode cX8_next 9 = .ok (.ireturn, 1) := by decide +kernel
theorem dX8_next_10 : decode cX8_next 10 = .ok (.aload_n 0, 1) := by decide +kernel
theorem dX8_next_11 : decode cX8_next 11 = .ok (.getfield 39, 3) := by decide +kernel
theorem dX8_next_14 : decode cX8_next 14 = .ok (.iload_n 1, 1) := by decide +kernel
theorem dX8_next_15 : decode cX8_next 15 = .ok (.invokevirtual 115, 3) := by decide +kernel
theorem dX8_next_18 : decode cX8_next 18 = .ok (.iconst 1, 1) := by decide +kernel
theorem dX8_next_19 : decode cX8_next 19 = .ok (.ixor, 1) := by decide +kernel
theorem dX8_next_20 : decode cX8_next 20 = .ok (.istore_n 2, 1) := by decide +kernel
theorem dX8_next_21 : decode cX8_next 21 = .ok (.iload_n 2, 1) := by decide +kernel
theorem dX8_next_22 : decode cX8_next 22 = .ok (.aload_n 0, 1) := by decide +kernel
theorem dX8_next_23 : decode cX8_next 23 = .ok (.getfield 39, 3) := by decide +kernel
theorem dX8_next_26 : decode cX8_next 26 = .ok (.getfield 129, 3) := by decide +kernel
theorem dX8_next_29 : decode cX8_next 29 = .ok (.if_icmp .ge 15, 3) := by decide +kernel
theorem dX8_next_32 : decode cX8_next 32 = .ok (.aload_n 0, 1) := by decide +kernel
theorem dX8_next_33 : decode cX8_next 33 = .ok (.getfield 39, 3) := by decide +kernel
theorem dX8_next_36 : decode cX8_next 36 = .ok (.getfield 130, 3) := by decide +kernel
theorem dX8_next_39 : decode cX8_next 39 = .ok (.iload_n 2, 1) := by decide +kernel
theorem dX8_next_40 : decode cX8_next 40 = .ok (.iaload, 1) := by decide +kernel
theorem dX8_next_41 : decode cX8_next 41 = .ok (.goto 4, 3) := by decide +kernel
theorem dX8_next_44 : decode cX8_next 44 = .ok (.iconst (-1), 1) := by decide +kernel
theorem dX8_next_45 : decode cX8_next 45 = .ok (.ireturn, 1) := by decide +kernel
theorem dX8_when_0 : decode cX8_when 0 = .ok (.aload_n 0, 1) := by decide +kernel
theorem dX8_when_1 : decode cX8_when 1 = .ok (.iload_n 1, 1) := by decide +kernel
theorem dX8_when_2 : decode cX8_when 2 = .ok (.invokevirtual 96, 3) := by decide +kernel
theorem dX8_when_5 : decode cX8_when 5 = .ok (.ifCond .ne 5, 3) := by decide +kernel
theorem dX8_when_8 : decode cX8_when 8 = .ok (.iconst (-1), 1) := by decide +kernel
theorem dX8_when_9 : decode cX8_when 9 = .ok (.ireturn, 1) := by decide +kernel
theorem dX8_when_10 : decode cX8_when 10 = .ok (.aload_n 0, 1) := by decide +kernel
theorem dX8_when_11 : decode cX8_when 11 = .ok (.getfield 43, 3) := by decide +kernel
theorem dX8_when_14 : decode cX8_when 14 = .ok (.aload_n 0, 1) := by decide +kernel
theorem dX8_when_15 : decode cX8_when 15 = .ok (.getfield 39, 3) := by decide +kernel
theorem dX8_when_18 : decode cX8_when 18 = .ok (.invokevirtual 166, 3) := by decide +kernel
theorem dX8_when_21 : decode cX8_when 21 = .ok (.iconst 0, 1) := by decide +kernel
theorem dX8_when_22 : decode cX8_when 22 = .ok (.istore_n 2, 1) := by decide +kernel
theorem dX8_when_23 : decode cX8_when 23 = .ok (.iload_n 2, 1) := by decide +kernel
theorem dX8_when_24 : decode cX8_when 24 = .ok (.bipush 30, 2) := by decide +kernel
theorem dX8_when_26 : decode cX8_when 26 = .ok (.if_icmp .ge 49, 3) := by decide +kernel
theorem dX8_when_29 : decode cX8_when 29 = .ok (.aload_n 0, 1) := by decide +kernel
theorem dX8_when_30 : decode cX8_when 30 = .ok (.getfield 43, 3) := by decide +kernel
theorem dX8_when_33 : decode cX8_when 33 = .ok (.getfield 129, 3) := by decide +kernel
theorem dX8_when_36 : decode cX8_when 36 = .ok (.ifCond .le 39, 3) := by decide +kernel
theorem dX8_when_39 : decode cX8_when 39 = .ok (.aload_n 0, 1) := by decide +kernel
theorem dX8_when_40 : decode cX8_when 40 = .ok (.getfield 43, 3) := by decide +kernel
theorem dX8_when_43 : decode cX8_when 43 = .ok (.iload_n 1, 1) := by decide +kernel
theorem dX8_when_44 : decode cX8_when 44 = .ok (.invokevirtual 178, 3) := by decide +kernel
theorem dX8_when_47 : decode cX8_when 47 = .ok (.ifCond .ne 28, 3) := by decide +kernel
theorem dX8_when_50 : decode cX8_when 50 = .ok (.aload_n 0, 1) := by decide +kernel
theorem dX8_when_51 : decode cX8_when 51 = .ok (.getfield 43, 3) := by decide +kernel
theorem dX8_when_54 : decode cX8_when 54 = .ok (.aload_n 0, 1) := by decide +kernel
theorem dX8_when_55 : decode cX8_when 55 = .ok (.getfield 19, 3) := by decide +kernel
theorem dX8_when_58 : decode cX8_when 58 = .ok (.aload_n 0, 1) := by decide +kernel
theorem dX8_when_59 : decode cX8_when 59 = .ok (.getfield 19, 3) := by decide +kernel
theorem dX8_when_62 : decode cX8_when 62 = .ok (.getfield 153, 3) := by decide +kernel
theorem dX8_when_65 : decode cX8_when 65 = .ok (.invokevirtual 156, 3) := by decide +kernel
theorem dX8_when_68 : decode cX8_when 68 = .ok (.pop, 1) := by decide +kernel
theorem dX8_when_69 : decode cX8_when 69 = .ok (.iinc 2 1, 3) := by decide +kernel
theorem dX8_when_72 : decode cX8_when 72 = .ok (.goto (-49), 3) := by decide +kernel
theorem dX8_when_75 : decode cX8_when 75 = .ok (.aload_n 0, 1) := by decide +kernel
theorem dX8_when_76 : decode cX8_when 76 = .ok (.getfield 43, 3) := by decide +kernel
theorem dX8_when_79 : decode cX8_when 79 = .ok (.iload_n 1, 1) := by decide +kernel
theorem dX8_when_80 : decode cX8_when 80 = .ok (.invokevirtual 178, 3) := by decide +kernel
theorem dX8_when_83 : decode cX8_when 83 = .ok (.ifCond .eq 7, 3) := by decide +kernel
theorem dX8_when_86 : decode cX8_when 86 = .ok (.iload_n 2, 1) := by decide +kernel
theorem dX8_when_87 : decode cX8_when 87 = .ok (.goto 4, 3) := by decide +kernel
theorem dX8_when_90 : decode cX8_when 90 = .ok (.iconst (-1), 1) := by decide +kernel
theorem dX8_when_91 : decode cX8_when 91 = .ok (.ireturn, 1) := by decide +kernel
theorem dX8_empty_0 : decode cX8_empty 0 = .ok (.aload_n 0, 1) := by decide +kernel
theorem dX8_empty_1 : decode cX8_empty 1 = .ok (.getfield 43, 3) := by decide +kernel
theorem dX8_empty_4 : decode cX8_empty 4 = .ok (.aload_n 0, 1) := by decide +kernel
theorem dX8_empty_5 : decode cX8_empty 5 = .ok (.getfield 39, 3) := by decide +kernel
theorem dX8_empty_8 : decode cX8_empty 8 = .ok (.invokevirtual 166, 3) := by decide +kernel
theorem dX8_empty_11 : decode cX8_empty 11 = .ok (.aload_n 0, 1) := by decide +kernel
theorem dX8_empty_12 : decode cX8_empty 12 = .ok (.getfield 43, 3) := by decide +kernel
theorem dX8_empty_15 : decode cX8_empty 15 = .ok (.aload_n 0, 1) := by decide +kernel
theorem dX8_empty_16 : decode cX8_empty 16 = .ok (.getfield 19, 3) := by decide +kernel
theorem dX8_empty_19 : decode cX8_empty 19 = .ok (.invokevirtual 181, 3) := by decide +kernel
theorem dX8_empty_22 : decode cX8_empty 22 = .ok (.ireturn, 1) := by decide +kernel
theorem dX8_meets_0 : decode cX8_meets 0 = .ok (.aload_n 0, 1) := by decide +kernel
theorem dX8_meets_1 : decode cX8_meets 1 = .ok (.iload_n 1, 1) := by decide +kernel
theorem dX8_meets_2 : decode cX8_meets 2 = .ok (.iload_n 2, 1) := by decide +kernel
theorem dX8_meets_3 : decode cX8_meets 3 = .ok (.invokevirtual 122, 3) := by decide +kernel
theorem dX8_meets_6 : decode cX8_meets 6 = .ok (.ifCond .ne 5, 3) := by decide +kernel
theorem dX8_meets_9 : decode cX8_meets 9 = .ok (.iconst (-1), 1) := by decide +kernel
theorem dX8_meets_10 : decode cX8_meets 10 = .ok (.ireturn, 1) := by decide +kernel
theorem dX8_meets_11 : decode cX8_meets 11 = .ok (.iload_n 1, 1) := by decide +kernel
theorem dX8_meets_12 : decode cX8_meets 12 = .ok (.bipush 6, 2) := by decide +kernel
theorem dX8_meets_14 : decode cX8_meets 14 = .ok (.imul, 1) := by decide +kernel
theorem dX8_meets_15 : decode cX8_meets 15 = .ok (.iload_n 2, 1) := by decide +kernel
theorem dX8_meets_16 : decode cX8_meets 16 = .ok (.iadd, 1) := by decide +kernel
theorem dX8_meets_17 : decode cX8_meets 17 = .ok (.istore_n 3, 1) := by decide +kernel
theorem dX8_meets_18 : decode cX8_meets 18 = .ok (.aload_n 0, 1) := by decide +kernel
theorem dX8_meets_19 : decode cX8_meets 19 = .ok (.getfield 43, 3) := by decide +kernel
theorem dX8_meets_22 : decode cX8_meets 22 = .ok (.aload_n 0, 1) := by decide +kernel
theorem dX8_meets_23 : decode cX8_meets 23 = .ok (.getfield 39, 3) := by decide +kernel
theorem dX8_meets_26 : decode cX8_meets 26 = .ok (.invokevirtual 166, 3) := by decide +kernel
theorem dX8_meets_29 : decode cX8_meets 29 = .ok (.iconst 1, 1) := by decide +kernel
theorem dX8_meets_30 : decode cX8_meets 30 = .ok (.istore 4, 2) := by decide +kernel
theorem dX8_meets_32 : decode cX8_meets 32 = .ok (.iload 4, 2) := by decide +kernel
theorem dX8_meets_34 : decode cX8_meets 34 = .ok (.bipush 30, 2) := by decide +kernel
theorem dX8_meets_36 : decode cX8_meets 36 = .ok (.if_icmp .gt 62, 3) := by decide +kernel
theorem dX8_meets_39 : decode cX8_meets 39 = .ok (.aload_n 0, 1) := by decide +kernel
theorem dX8_meets_40 : decode cX8_meets 40 = .ok (.getfield 43, 3) := by decide +kernel
theorem dX8_meets_43 : decode cX8_meets 43 = .ok (.getfield 129, 3) := by decide +kernel
theorem dX8_meets_46 : decode cX8_meets 46 = .ok (.ifCond .le 52, 3) := by decide +kernel
theorem dX8_meets_49 : decode cX8_meets 49 = .ok (.aload_n 0, 1) := by decide +kernel
theorem dX8_meets_50 : decode cX8_meets 50 = .ok (.getfield 43, 3) := by decide +kernel
theorem dX8_meets_53 : decode cX8_meets 53 = .ok (.aload_n 0, 1) := by decide +kernel
theorem dX8_meets_54 : decode cX8_meets 54 = .ok (.getfield 19, 3) := by decide +kernel
theorem dX8_meets_57 : decode cX8_meets 57 = .ok (.aload_n 0, 1) := by decide +kernel
theorem dX8_meets_58 : decode cX8_meets 58 = .ok (.getfield 19, 3) := by decide +kernel
theorem dX8_meets_61 : decode cX8_meets 61 = .ok (.getfield 153, 3) := by decide +kernel
theorem dX8_meets_64 : decode cX8_meets 64 = .ok (.invokevirtual 156, 3) := by decide +kernel
theorem dX8_meets_67 : decode cX8_meets 67 = .ok (.pop, 1) := by decide +kernel
theorem dX8_meets_68 : decode cX8_meets 68 = .ok (.aload_n 0, 1) := by decide +kernel
theorem dX8_meets_69 : decode cX8_meets 69 = .ok (.getfield 43, 3) := by decide +kernel
theorem dX8_meets_72 : decode cX8_meets 72 = .ok (.getfield 126, 3) := by decide +kernel
theorem dX8_meets_75 : decode cX8_meets 75 = .ok (.iload_n 3, 1) := by decide +kernel
theorem dX8_meets_76 : decode cX8_meets 76 = .ok (.iaload, 1) := by decide +kernel
theorem dX8_meets_77 : decode cX8_meets 77 = .ok (.aload_n 0, 1) := by decide +kernel
theorem dX8_meets_78 : decode cX8_meets 78 = .ok (.getfield 39, 3) := by decide +kernel
theorem dX8_meets_81 : decode cX8_meets 81 = .ok (.getfield 126, 3) := by decide +kernel
theorem dX8_meets_84 : decode cX8_meets 84 = .ok (.iload_n 3, 1) := by decide +kernel
theorem dX8_meets_85 : decode cX8_meets 85 = .ok (.iaload, 1) := by decide +kernel
theorem dX8_meets_86 : decode cX8_meets 86 = .ok (.if_icmp .le 6, 3) := by decide +kernel
theorem dX8_meets_89 : decode cX8_meets 89 = .ok (.iload 4, 2) := by decide +kernel
theorem dX8_meets_91 : decode cX8_meets 91 = .ok (.ireturn, 1) := by decide +kernel
theorem dX8_meets_92 : decode cX8_meets 92 = .ok (.iinc 4 1, 3) := by decide +kernel
theorem dX8_meets_95 : decode cX8_meets 95 = .ok (.goto (-63), 3) := by decide +kernel
theorem dX8_meets_98 : decode cX8_meets 98 = .ok (.iconst (-1), 1) := by decide +kernel
theorem dX8_meets_99 : decode cX8_meets 99 = .ok (.ireturn, 1) := by decide +kernel
theorem dX8_spread_0 : decode cX8_spread 0 = .ok (.iload_n 1, 1) := by decide +kernel
theorem dX8_spread_1 : decode cX8_spread 1 = .ok (.invokestatic 184, 3) := by decide +kernel
theorem dX8_spread_4 : decode cX8_spread 4 = .ok (.ifCond .ne 5, 3) := by decide +kernel
theorem dX8_spread_7 : decode cX8_spread 7 = .ok (.iconst (-1), 1) := by decide +kernel
theorem dX8_spread_8 : decode cX8_spread 8 = .ok (.ireturn, 1) := by decide +kernel
theorem dX8_spread_9 : decode cX8_spread 9 = .ok (.aload_n 0, 1) := by decide +kernel
theorem dX8_spread_10 : decode cX8_spread 10 = .ok (.getfield 43, 3) := by decide +kernel
theorem dX8_spread_13 : decode cX8_spread 13 = .ok (.aload_n 0, 1) := by decide +kernel
theorem dX8_spread_14 : decode cX8_spread 14 = .ok (.getfield 39, 3) := by decide +kernel
theorem dX8_spread_17 : decode cX8_spread 17 = .ok (.invokevirtual 166, 3) := by decide +kernel
theorem dX8_spread_20 : decode cX8_spread 20 = .ok (.aload_n 0, 1) := by decide +kernel
theorem dX8_spread_21 : decode cX8_spread 21 = .ok (.getfield 43, 3) := by decide +kernel
theorem dX8_spread_24 : decode cX8_spread 24 = .ok (.aload_n 0, 1) := by decide +kernel
theorem dX8_spread_25 : decode cX8_spread 25 = .ok (.getfield 19, 3) := by decide +kernel
theorem dX8_spread_28 : decode cX8_spread 28 = .ok (.invokevirtual 181, 3) := by decide +kernel
theorem dX8_spread_31 : decode cX8_spread 31 = .ok (.pop, 1) := by decide +kernel
theorem dX8_spread_32 : decode cX8_spread 32 = .ok (.aload_n 0, 1) := by decide +kernel
theorem dX8_spread_33 : decode cX8_spread 33 = .ok (.getfield 43, 3) := by decide +kernel
theorem dX8_spread_36 : decode cX8_spread 36 = .ok (.iload_n 1, 1) := by decide +kernel
theorem dX8_spread_37 : decode cX8_spread 37 = .ok (.aload_n 0, 1) := by decide +kernel
theorem dX8_spread_38 : decode cX8_spread 38 = .ok (.getfield 19, 3) := by decide +kernel
theorem dX8_spread_41 : decode cX8_spread 41 = .ok (.getfield 187, 3) := by decide +kernel
theorem dX8_spread_44 : decode cX8_spread 44 = .ok (.invokevirtual 190, 3) := by decide +kernel
theorem dX8_spread_47 : decode cX8_spread 47 = .ok (.ireturn, 1) := by decide +kernel
theorem dX8_order_0 : decode cX8_order 0 = .ok (.aload_n 0, 1) := by decide +kernel
theorem dX8_order_1 : decode cX8_order 1 = .ok (.getfield 59, 3) := by decide +kernel
theorem dX8_order_4 : decode cX8_order 4 = .ok (.getfield 170, 3) := by decide +kernel
theorem dX8_order_7 : decode cX8_order 7 = .ok (.ifCond .ne 7, 3) := by decide +kernel
theorem dX8_order_10 : decode cX8_order 10 = .ok (.aload_n 0, 1) := by decide +kernel
theorem dX8_order_11 : decode cX8_order 11 = .ok (.invokevirtual 193, 3) := by decide +kernel
theorem dX8_order_14 : decode cX8_order 14 = .ok (.aload_n 0, 1) := by decide +kernel
theorem dX8_order_15 : decode cX8_order 15 = .ok (.getfield 59, 3) := by decide +kernel
theorem dX8_order_18 : decode cX8_order 18 = .ok (.iload_n 1, 1) := by decide +kernel
theorem dX8_order_19 : decode cX8_order 19 = .ok (.invokevirtual 196, 3) := by decide +kernel
theorem dX8_order_22 : decode cX8_order 22 = .ok (.ireturn, 1) := by decide +kernel
theorem dX8_helpers_0 : decode cX8_helpers 0 = .ok (.aload_n 0, 1) := by decide +kernel
theorem dX8_helpers_1 : decode cX8_helpers 1 = .ok (.iload_n 1, 1) := by decide +kernel
theorem dX8_helpers_2 : decode cX8_helpers 2 = .ok (.invokevirtual 143, 3) := by decide +kernel
theorem dX8_helpers_5 : decode cX8_helpers 5 = .ok (.ifCond .ne 5, 3) := by decide +kernel
theorem dX8_helpers_8 : decode cX8_helpers 8 = .ok (.iconst (-1), 1) := by decide +kernel
theorem dX8_helpers_9 : decode cX8_helpers 9 = .ok (.ireturn, 1) := by decide +kernel
theorem dX8_helpers_10 : decode cX8_helpers 10 = .ok (.aload_n 0, 1) := by decide +kernel
theorem dX8_helpers_11 : decode cX8_helpers 11 = .ok (.invokevirtual 199, 3) := by decide +kernel
theorem dX8_helpers_14 : decode cX8_helpers 14 = .ok (.istore_n 2, 1) := by decide +kernel
theorem dX8_helpers_15 : decode cX8_helpers 15 = .ok (.bipush 7, 2) := by decide +kernel
theorem dX8_helpers_17 : decode cX8_helpers 17 = .ok (.istore_n 3, 1) := by decide +kernel
theorem dX8_helpers_18 : decode cX8_helpers 18 = .ok (.iconst (-1), 1) := by decide +kernel
theorem dX8_helpers_19 : decode cX8_helpers 19 = .ok (.istore 4, 2) := by decide +kernel
theorem dX8_helpers_21 : decode cX8_helpers 21 = .ok (.iconst 0, 1) := by decide +kernel
theorem dX8_helpers_22 : decode cX8_helpers 22 = .ok (.istore 5, 2) := by decide +kernel
theorem dX8_helpers_24 : decode cX8_helpers 24 = .ok (.iload 5, 2) := by decide +kernel
theorem dX8_helpers_26 : decode cX8_helpers 26 = .ok (.bipush 64, 2) := by decide +kernel
theorem dX8_helpers_28 : decode cX8_helpers 28 = .ok (.if_icmp .ge 63, 3) := by decide +kernel
theorem dX8_helpers_31 : decode cX8_helpers 31 = .ok (.iload 5, 2) := by decide +kernel
theorem dX8_helpers_33 : decode cX8_helpers 33 = .ok (.iload_n 2, 1) := by decide +kernel
theorem dX8_helpers_34 : decode cX8_helpers 34 = .ok (.iconst (-1), 1) := by decide +kernel
theorem dX8_helpers_35 : decode cX8_helpers 35 = .ok (.ixor, 1) := by decide +kernel
theorem dX8_helpers_36 : decode cX8_helpers 36 = .ok (.iand, 1) := by decide +kernel
theorem dX8_helpers_37 : decode cX8_helpers 37 = .ok (.ifCond .ne 16, 3) := by decide +kernel
theorem dX8_helpers_40 : decode cX8_helpers 40 = .ok (.iload 5, 2) := by decide +kernel
theorem dX8_helpers_42 : decode cX8_helpers 42 = .ok (.invokestatic 203, 3) := by decide +kernel
theorem dX8_helpers_45 : decode cX8_helpers 45 = .ok (.iload_n 3, 1) := by decide +kernel
theorem dX8_helpers_46 : decode cX8_helpers 46 = .ok (.if_icmp .ge 7, 3) := by decide +kernel
theorem dX8_helpers_49 : decode cX8_helpers 49 = .ok (.iconst 1, 1) := by decide +kernel
theorem dX8_helpers_50 : decode cX8_helpers 50 = .ok (.goto 4, 3) := by decide +kernel
theorem dX8_helpers_53 : decode cX8_helpers 53 = .ok (.iconst 0, 1) := by decide +kernel
theorem dX8_helpers_54 : decode cX8_helpers 54 = .ok (.istore 6, 2) := by decide +kernel
theorem dX8_helpers_56 : decode cX8_helpers 56 = .ok (.iload 6, 2) := by decide +kernel
theorem dX8_helpers_58 : decode cX8_helpers 58 = .ok (.ifCond .eq 27, 3) := by decide +kernel
theorem dX8_helpers_61 : decode cX8_helpers 61 = .ok (.aload_n 0, 1) := by decide +kernel
theorem dX8_helpers_62 : decode cX8_helpers 62 = .ok (.iload 5, 2) := by decide +kernel
theorem dX8_helpers_64 : decode cX8_helpers 64 = .ok (.invokevirtual 208, 3) := by decide +kernel
theorem dX8_helpers_67 : decode cX8_helpers 67 = .ok (.iload_n 1, 1) := by decide +kernel
theorem dX8_helpers_68 : decode cX8_helpers 68 = .ok (.ishr, 1) := by decide +kernel
theorem dX8_helpers_69 : decode cX8_helpers 69 = .ok (.iconst 1, 1) := by decide +kernel
theorem dX8_helpers_70 : decode cX8_helpers 70 = .ok (.iand, 1) := by decide +kernel
theorem dX8_helpers_71 : decode cX8_helpers 71 = .ok (.iconst 1, 1) := by decide +kernel
theorem dX8_helpers_72 : decode cX8_helpers 72 = .ok (.if_icmp .ne 13, 3) := by decide +kernel
theorem dX8_helpers_75 : decode cX8_helpers 75 = .ok (.iload 5, 2) := by decide +kernel
theorem dX8_helpers_77 : decode cX8_helpers 77 = .ok (.invokestatic 203, 3) := by decide +kernel
theorem dX8_helpers_80 : decode cX8_helpers 80 = .ok (.istore_n 3, 1) := by decide +kernel
theorem dX8_helpers_81 : decode cX8_helpers 81 = .ok (.iload 5, 2) := by decide +kernel
theorem dX8_helpers_83 : decode cX8_helpers 83 = .ok (.istore 4, 2) := by decide +kernel
theorem dX8_helpers_85 : decode cX8_helpers 85 = .ok (.iinc 5 1, 3) := by decide +kernel
theorem dX8_helpers_88 : decode cX8_helpers 88 = .ok (.goto (-64), 3) := by decide +kernel
theorem dX8_helpers_91 : decode cX8_helpers 91 = .ok (.iload 4, 2) := by decide +kernel
theorem dX8_helpers_93 : decode cX8_helpers 93 = .ok (.ireturn, 1) := by decide +kernel
theorem dX8_gone_0 : decode cX8_gone 0 = .ok (.aload_n 0, 1) := by decide +kernel
theorem dX8_gone_1 : decode cX8_gone 1 = .ok (.iload_n 1, 1) := by decide +kernel
theorem dX8_gone_2 : decode cX8_gone 2 = .ok (.invokevirtual 143, 3) := by decide +kernel
theorem dX8_gone_5 : decode cX8_gone 5 = .ok (.ifCond .ne 5, 3) := by decide +kernel
theorem dX8_gone_8 : decode cX8_gone 8 = .ok (.iconst (-1), 1) := by decide +kernel
theorem dX8_gone_9 : decode cX8_gone 9 = .ok (.ireturn, 1) := by decide +kernel
theorem dX8_gone_10 : decode cX8_gone 10 = .ok (.aload_n 0, 1) := by decide +kernel
theorem dX8_gone_11 : decode cX8_gone 11 = .ok (.getfield 43, 3) := by decide +kernel
theorem dX8_gone_14 : decode cX8_gone 14 = .ok (.aload_n 0, 1) := by decide +kernel
theorem dX8_gone_15 : decode cX8_gone 15 = .ok (.getfield 39, 3) := by decide +kernel
theorem dX8_gone_18 : decode cX8_gone 18 = .ok (.invokevirtual 166, 3) := by decide +kernel
theorem dX8_gone_21 : decode cX8_gone 21 = .ok (.iconst 0, 1) := by decide +kernel
theorem dX8_gone_22 : decode cX8_gone 22 = .ok (.istore_n 2, 1) := by decide +kernel
theorem dX8_gone_23 : decode cX8_gone 23 = .ok (.iload_n 2, 1) := by decide +kernel
theorem dX8_gone_24 : decode cX8_gone 24 = .ok (.bipush 30, 2) := by decide +kernel
theorem dX8_gone_26 : decode cX8_gone 26 = .ok (.if_icmp .ge 40, 3) := by decide +kernel
theorem dX8_gone_29 : decode cX8_gone 29 = .ok (.aload_n 0, 1) := by decide +kernel
theorem dX8_gone_30 : decode cX8_gone 30 = .ok (.getfield 43, 3) := by decide +kernel
theorem dX8_gone_33 : decode cX8_gone 33 = .ok (.iload_n 1, 1) := by decide +kernel
theorem dX8_gone_34 : decode cX8_gone 34 = .ok (.invokevirtual 115, 3) := by decide +kernel
theorem dX8_gone_37 : decode cX8_gone 37 = .ok (.iconst (-1), 1) := by decide +kernel
theorem dX8_gone_38 : decode cX8_gone 38 = .ok (.if_icmp .eq 28, 3) := by decide +kernel
theorem dX8_gone_41 : decode cX8_gone 41 = .ok (.aload_n 0, 1) := by decide +kernel
theorem dX8_gone_42 : decode cX8_gone 42 = .ok (.getfield 43, 3) := by decide +kernel
theorem dX8_gone_45 : decode cX8_gone 45 = .ok (.aload_n 0, 1) := by decide +kernel
theorem dX8_gone_46 : decode cX8_gone 46 = .ok (.getfield 19, 3) := by decide +kernel
theorem dX8_gone_49 : decode cX8_gone 49 = .ok (.aload_n 0, 1) := by decide +kernel
theorem dX8_gone_50 : decode cX8_gone 50 = .ok (.getfield 19, 3) := by decide +kernel
theorem dX8_gone_53 : decode cX8_gone 53 = .ok (.getfield 153, 3) := by decide +kernel
theorem dX8_gone_56 : decode cX8_gone 56 = .ok (.invokevirtual 156, 3) := by decide +kernel
theorem dX8_gone_59 : decode cX8_gone 59 = .ok (.pop, 1) := by decide +kernel
theorem dX8_gone_60 : decode cX8_gone 60 = .ok (.iinc 2 1, 3) := by decide +kernel
theorem dX8_gone_63 : decode cX8_gone 63 = .ok (.goto (-40), 3) := by decide +kernel
theorem dX8_gone_66 : decode cX8_gone 66 = .ok (.iload_n 2, 1) := by decide +kernel
theorem dX8_gone_67 : decode cX8_gone 67 = .ok (.ireturn, 1) := by decide +kernel
theorem dX8_holders_0 : decode cX8_holders 0 = .ok (.iload_n 1, 1) := by decide +kernel
theorem dX8_holders_1 : decode cX8_holders 1 = .ok (.invokestatic 184, 3) := by decide +kernel
theorem dX8_holders_4 : decode cX8_holders 4 = .ok (.ifCond .eq 21, 3) := by decide +kernel
theorem dX8_holders_7 : decode cX8_holders 7 = .ok (.aload_n 0, 1) := by decide +kernel
theorem dX8_holders_8 : decode cX8_holders 8 = .ok (.getfield 39, 3) := by decide +kernel
theorem dX8_holders_11 : decode cX8_holders 11 = .ok (.iload_n 1, 1) := by decide +kernel
theorem dX8_holders_12 : decode cX8_holders 12 = .ok (.aload_n 0, 1) := by decide +kernel
theorem dX8_holders_13 : decode cX8_holders 13 = .ok (.getfield 19, 3) := by decide +kernel
theorem dX8_holders_16 : decode cX8_holders 16 = .ok (.getfield 187, 3) := by decide +kernel
theorem dX8_holders_19 : decode cX8_holders 19 = .ok (.invokevirtual 190, 3) := by decide +kernel
theorem dX8_holders_22 : decode cX8_holders 22 = .ok (.goto 4, 3) := by decide +kernel
theorem dX8_holders_25 : decode cX8_holders 25 = .ok (.iconst (-1), 1) := by decide +kernel
theorem dX8_holders_26 : decode cX8_holders 26 = .ok (.ireturn, 1) := by decide +kernel
theorem dX8_hears_0 : decode cX8_hears 0 = .ok (.aload_n 0, 1) := by decide +kernel
theorem dX8_hears_1 : decode cX8_hears 1 = .ok (.iload_n 1, 1) := by decide +kernel
theorem dX8_hears_2 : decode cX8_hears 2 = .ok (.iload_n 2, 1) := by decide +kernel
theorem dX8_hears_3 : decode cX8_hears 3 = .ok (.invokevirtual 122, 3) := by decide +kernel
theorem dX8_hears_6 : decode cX8_hears 6 = .ok (.ifCond .ne 5, 3) := by decide +kernel
theorem dX8_hears_9 : decode cX8_hears 9 = .ok (.iconst (-1), 1) := by decide +kernel
theorem dX8_hears_10 : decode cX8_hears 10 = .ok (.ireturn, 1) := by decide +kernel
theorem dX8_hears_11 : decode cX8_hears 11 = .ok (.aload_n 0, 1) := by decide +kernel
theorem dX8_hears_12 : decode cX8_hears 12 = .ok (.getfield 39, 3) := by decide +kernel
theorem dX8_hears_15 : decode cX8_hears 15 = .ok (.getfield 126, 3) := by decide +kernel
theorem dX8_hears_18 : decode cX8_hears 18 = .ok (.iload_n 1, 1) := by decide +kernel
theorem dX8_hears_19 : decode cX8_hears 19 = .ok (.bipush 6, 2) := by decide +kernel
theorem dX8_hears_21 : decode cX8_hears 21 = .ok (.imul, 1) := by decide +kernel
theorem dX8_hears_22 : decode cX8_hears 22 = .ok (.iload_n 2, 1) := by decide +kernel
theorem dX8_hears_23 : decode cX8_hears 23 = .ok (.iadd, 1) := by decide +kernel
theorem dX8_hears_24 : decode cX8_hears 24 = .ok (.iaload, 1) := by decide +kernel
theorem dX8_hears_25 : decode cX8_hears 25 = .ok (.iconst 1, 1) := by decide +kernel
theorem dX8_hears_26 : decode cX8_hears 26 = .ok (.iadd, 1) := by decide +kernel
theorem dX8_hears_27 : decode cX8_hears 27 = .ok (.istore_n 3, 1) := by decide +kernel
theorem dX8_hears_28 : decode cX8_hears 28 = .ok (.aload_n 0, 1) := by decide +kernel
theorem dX8_hears_29 : decode cX8_hears 29 = .ok (.getfield 39, 3) := by decide +kernel
theorem dX8_hears_32 : decode cX8_hears 32 = .ok (.aload_n 0, 1) := by decide +kernel
theorem dX8_hears_33 : decode cX8_hears 33 = .ok (.getfield 19, 3) := by decide +kernel
theorem dX8_hears_36 : decode cX8_hears 36 = .ok (.iload_n 2, 1) := by decide +kernel
theorem dX8_hears_37 : decode cX8_hears 37 = .ok (.iload_n 1, 1) := by decide +kernel
theorem dX8_hears_38 : decode cX8_hears 38 = .ok (.iconst (-1), 1) := by decide +kernel
theorem dX8_hears_39 : decode cX8_hears 39 = .ok (.iload_n 3, 1) := by decide +kernel
theorem dX8_hears_40 : decode cX8_hears 40 = .ok (.invokevirtual 211, 3) := by decide +kernel
theorem dX8_hears_43 : decode cX8_hears 43 = .ok (.ireturn, 1) := by decide +kernel
theorem dX8_deal_0 : decode cX8_deal 0 = .ok (.aload_n 0, 1) := by decide +kernel
theorem dX8_deal_1 : decode cX8_deal 1 = .ok (.getfield 63, 3) := by decide +kernel
theorem dX8_deal_4 : decode cX8_deal 4 = .ok (.aload_n 0, 1) := by decide +kernel
theorem dX8_deal_5 : decode cX8_deal 5 = .ok (.getfield 39, 3) := by decide +kernel
theorem dX8_deal_8 : decode cX8_deal 8 = .ok (.invokevirtual 215, 3) := by decide +kernel
theorem dX8_deal_11 : decode cX8_deal 11 = .ok (.invokevirtual 218, 3) := by decide +kernel
theorem dX8_deal_14 : decode cX8_deal 14 = .ok (.iconst 1, 1) := by decide +kernel
theorem dX8_deal_15 : decode cX8_deal 15 = .ok (.istore_n 2, 1) := by decide +kernel
theorem dX8_deal_16 : decode cX8_deal 16 = .ok (.iconst 0, 1) := by decide +kernel
theorem dX8_deal_17 : decode cX8_deal 17 = .ok (.istore_n 3, 1) := by decide +kernel
theorem dX8_deal_18 : decode cX8_deal 18 = .ok (.iload_n 2, 1) := by decide +kernel
theorem dX8_deal_19 : decode cX8_deal 19 = .ok (.ifCond .eq 67, 3) := by decide +kernel
theorem dX8_deal_22 : decode cX8_deal 22 = .ok (.iload_n 3, 1) := by decide +kernel
theorem dX8_deal_23 : decode cX8_deal 23 = .ok (.sipush 720, 3) := by decide +kernel
theorem dX8_deal_26 : decode cX8_deal 26 = .ok (.if_icmp .ge 60, 3) := by decide +kernel
theorem dX8_deal_29 : decode cX8_deal 29 = .ok (.aload_n 0, 1) := by decide +kernel
theorem dX8_deal_30 : decode cX8_deal 30 = .ok (.getfield 63, 3) := by decide +kernel
theorem dX8_deal_33 : decode cX8_deal 33 = .ok (.aload_n 0, 1) := by decide +kernel
theorem dX8_deal_34 : decode cX8_deal 34 = .ok (.aload_n 0, 1) := by decide +kernel
theorem dX8_deal_35 : decode cX8_deal 35 = .ok (.getfield 63, 3) := by decide +kernel
theorem dX8_deal_38 : decode cX8_deal 38 = .ok (.invokevirtual 221, 3) := by decide +kernel
theorem dX8_deal_41 : decode cX8_deal 41 = .ok (.invokestatic 203, 3) := by decide +kernel
theorem dX8_deal_44 : decode cX8_deal 44 = .ok (.invokevirtual 225, 3) := by decide +kernel
theorem dX8_deal_47 : decode cX8_deal 47 = .ok (.aload_n 0, 1) := by decide +kernel
theorem dX8_deal_48 : decode cX8_deal 48 = .ok (.getfield 63, 3) := by decide +kernel
theorem dX8_deal_51 : decode cX8_deal 51 = .ok (.getfield 228, 3) := by decide +kernel
theorem dX8_deal_54 : decode cX8_deal 54 = .ok (.aload_n 0, 1) := by decide +kernel
theorem dX8_deal_55 : decode cX8_deal 55 = .ok (.getfield 63, 3) := by decide +kernel
theorem dX8_deal_58 : decode cX8_deal 58 = .ok (.getfield 231, 3) := by decide +kernel
theorem dX8_deal_61 : decode cX8_deal 61 = .ok (.if_icmp .ge 17, 3) := by decide +kernel
theorem dX8_deal_64 : decode cX8_deal 64 = .ok (.aload_n 0, 1) := by decide +kernel
theorem dX8_deal_65 : decode cX8_deal 65 = .ok (.getfield 63, 3) := by decide +kernel
theorem dX8_deal_68 : decode cX8_deal 68 = .ok (.invokevirtual 234, 3) := by decide +kernel
theorem dX8_deal_71 : decode cX8_deal 71 = .ok (.ifCond .eq 7, 3) := by decide +kernel
theorem dX8_deal_74 : decode cX8_deal 74 = .ok (.iconst 1, 1) := by decide +kernel
theorem dX8_deal_75 : decode cX8_deal 75 = .ok (.goto 4, 3) := by decide +kernel
theorem dX8_deal_78 : decode cX8_deal 78 = .ok (.iconst 0, 1) := by decide +kernel
theorem dX8_deal_79 : decode cX8_deal 79 = .ok (.istore_n 2, 1) := by decide +kernel
theorem dX8_deal_80 : decode cX8_deal 80 = .ok (.iinc 3 1, 3) := by decide +kernel
theorem dX8_deal_83 : decode cX8_deal 83 = .ok (.goto (-65), 3) := by decide +kernel
theorem dX8_deal_86 : decode cX8_deal 86 = .ok (.aload_n 0, 1) := by decide +kernel
theorem dX8_deal_87 : decode cX8_deal 87 = .ok (.getfield 63, 3) := by decide +kernel
theorem dX8_deal_90 : decode cX8_deal 90 = .ok (.iload_n 1, 1) := by decide +kernel
theorem dX8_deal_91 : decode cX8_deal 91 = .ok (.invokevirtual 196, 3) := by decide +kernel
theorem dX8_deal_94 : decode cX8_deal 94 = .ok (.ireturn, 1) := by decide +kernel
theorem dX8_usual_0 : decode cX8_usual 0 = .ok (.aload_n 0, 1) := by decide +kernel
theorem dX8_usual_1 : decode cX8_usual 1 = .ok (.iload_n 1, 1) := by decide +kernel
theorem dX8_usual_2 : decode cX8_usual 2 = .ok (.invokevirtual 96, 3) := by decide +kernel
theorem dX8_usual_5 : decode cX8_usual 5 = .ok (.ifCond .ne 5, 3) := by decide +kernel
theorem dX8_usual_8 : decode cX8_usual 8 = .ok (.iconst (-1), 1) := by decide +kernel
theorem dX8_usual_9 : decode cX8_usual 9 = .ok (.ireturn, 1) := by decide +kernel
theorem dX8_usual_10 : decode cX8_usual 10 = .ok (.iconst 0, 1) := by decide +kernel
theorem dX8_usual_11 : decode cX8_usual 11 = .ok (.istore_n 2, 1) := by decide +kernel
theorem dX8_usual_12 : decode cX8_usual 12 = .ok (.iconst (-1), 1) := by decide +kernel
theorem dX8_usual_13 : decode cX8_usual 13 = .ok (.istore_n 3, 1) := by decide +kernel
theorem dX8_usual_14 : decode cX8_usual 14 = .ok (.iconst 0, 1) := by decide +kernel
theorem dX8_usual_15 : decode cX8_usual 15 = .ok (.istore 4, 2) := by decide +kernel
theorem dX8_usual_17 : decode cX8_usual 17 = .ok (.iload 4, 2) := by decide +kernel
theorem dX8_usual_19 : decode cX8_usual 19 = .ok (.aload_n 0, 1) := by decide +kernel
theorem dX8_usual_20 : decode cX8_usual 20 = .ok (.getfield 19, 3) := by decide +kernel
theorem dX8_usual_23 : decode cX8_usual 23 = .ok (.getfield 187, 3) := by decide +kernel
theorem dX8_usual_26 : decode cX8_usual 26 = .ok (.if_icmp .ge 38, 3) := by decide +kernel
theorem dX8_usual_29 : decode cX8_usual 29 = .ok (.aload_n 0, 1) := by decide +kernel
theorem dX8_usual_30 : decode cX8_usual 30 = .ok (.getfield 39, 3) := by decide +kernel
theorem dX8_usual_33 : decode cX8_usual 33 = .ok (.getfield 126, 3) := by decide +kernel
theorem dX8_usual_36 : decode cX8_usual 36 = .ok (.iload_n 1, 1) := by decide +kernel
theorem dX8_usual_37 : decode cX8_usual 37 = .ok (.bipush 6, 2) := by decide +kernel
theorem dX8_usual_39 : decode cX8_usual 39 = .ok (.imul, 1) := by decide +kernel
theorem dX8_usual_40 : decode cX8_usual 40 = .ok (.iload 4, 2) := by decide +kernel
theorem dX8_usual_42 : decode cX8_usual 42 = .ok (.iadd, 1) := by decide +kernel
theorem dX8_usual_43 : decode cX8_usual 43 = .ok (.iaload, 1) := by decide +kernel
theorem dX8_usual_44 : decode cX8_usual 44 = .ok (.istore 5, 2) := by decide +kernel
theorem dX8_usual_46 : decode cX8_usual 46 = .ok (.iload 5, 2) := by decide +kernel
theorem dX8_usual_48 : decode cX8_usual 48 = .ok (.iload_n 2, 1) := by decide +kernel
theorem dX8_usual_49 : decode cX8_usual 49 = .ok (.if_icmp .le 9, 3) := by decide +kernel
theorem dX8_usual_52 : decode cX8_usual 52 = .ok (.iload 5, 2) := by decide +kernel
theorem dX8_usual_54 : decode cX8_usual 54 = .ok (.istore_n 2, 1) := by decide +kernel
theorem dX8_usual_55 : decode cX8_usual 55 = .ok (.iload 4, 2) := by decide +kernel
theorem dX8_usual_57 : decode cX8_usual 57 = .ok (.istore_n 3, 1) := by decide +kernel
theorem dX8_usual_58 : decode cX8_usual 58 = .ok (.iinc 4 1, 3) := by decide +kernel
theorem dX8_usual_61 : decode cX8_usual 61 = .ok (.goto (-44), 3) := by decide +kernel
theorem dX8_usual_64 : decode cX8_usual 64 = .ok (.iload_n 3, 1) := by decide +kernel
theorem dX8_usual_65 : decode cX8_usual 65 = .ok (.ireturn, 1) := by decide +kernel
theorem dX8_lost_0 : decode cX8_lost 0 = .ok (.iconst 0, 1) := by decide +kernel
theorem dX8_lost_1 : decode cX8_lost 1 = .ok (.istore_n 1, 1) := by decide +kernel
theorem dX8_lost_2 : decode cX8_lost 2 = .ok (.iconst 0, 1) := by decide +kernel
theorem dX8_lost_3 : decode cX8_lost 3 = .ok (.istore_n 2, 1) := by decide +kernel
theorem dX8_lost_4 : decode cX8_lost 4 = .ok (.iload_n 2, 1) := by decide +kernel
theorem dX8_lost_5 : decode cX8_lost 5 = .ok (.aload_n 0, 1) := by decide +kernel
theorem dX8_lost_6 : decode cX8_lost 6 = .ok (.getfield 39, 3) := by decide +kernel
theorem dX8_lost_9 : decode cX8_lost 9 = .ok (.getfield 129, 3) := by decide +kernel
theorem dX8_lost_12 : decode cX8_lost 12 = .ok (.if_icmp .ge 29, 3) := by decide +kernel
theorem dX8_lost_15 : decode cX8_lost 15 = .ok (.iload_n 1, 1) := by decide +kernel
theorem dX8_lost_16 : decode cX8_lost 16 = .ok (.aload_n 0, 1) := by decide +kernel
theorem dX8_lost_17 : decode cX8_lost 17 = .ok (.getfield 39, 3) := by decide +kernel
theorem dX8_lost_20 : decode cX8_lost 20 = .ok (.getfield 109, 3) := by decide +kernel
theorem dX8_lost_23 : decode cX8_lost 23 = .ok (.aload_n 0, 1) := by decide +kernel
theorem dX8_lost_24 : decode cX8_lost 24 = .ok (.getfield 39, 3) := by decide +kernel
theorem dX8_lost_27 : decode cX8_lost 27 = .ok (.getfield 130, 3) := by decide +kernel
theorem dX8_lost_30 : decode cX8_lost 30 = .ok (.iload_n 2, 1) := by decide +kernel
theorem dX8_lost_31 : decode cX8_lost 31 = .ok (.iaload, 1) := by decide +kernel
theorem dX8_lost_32 : decode cX8_lost 32 = .ok (.iaload, 1) := by decide +kernel
theorem dX8_lost_33 : decode cX8_lost 33 = .ok (.ior, 1) := by decide +kernel
theorem dX8_lost_34 : decode cX8_lost 34 = .ok (.istore_n 1, 1) := by decide +kernel
theorem dX8_lost_35 : decode cX8_lost 35 = .ok (.iinc 2 1, 3) := by decide +kernel
theorem dX8_lost_38 : decode cX8_lost 38 = .ok (.goto (-34), 3) := by decide +kernel
theorem dX8_lost_41 : decode cX8_lost 41 = .ok (.iconst 0, 1) := by decide +kernel
theorem dX8_lost_42 : decode cX8_lost 42 = .ok (.istore_n 2, 1) := by decide +kernel
theorem dX8_lost_43 : decode cX8_lost 43 = .ok (.iconst 0, 1) := by decide +kernel
theorem dX8_lost_44 : decode cX8_lost 44 = .ok (.istore_n 3, 1) := by decide +kernel
theorem dX8_lost_45 : decode cX8_lost 45 = .ok (.iload_n 3, 1) := by decide +kernel
theorem dX8_lost_46 : decode cX8_lost 46 = .ok (.aload_n 0, 1) := by decide +kernel
theorem dX8_lost_47 : decode cX8_lost 47 = .ok (.getfield 39, 3) := by decide +kernel
theorem dX8_lost_50 : decode cX8_lost 50 = .ok (.getfield 129, 3) := by decide +kernel
theorem dX8_lost_53 : decode cX8_lost 53 = .ok (.if_icmp .ge 44, 3) := by decide +kernel
theorem dX8_lost_56 : decode cX8_lost 56 = .ok (.aload_n 0, 1) := by decide +kernel
theorem dX8_lost_57 : decode cX8_lost 57 = .ok (.getfield 39, 3) := by decide +kernel
theorem dX8_lost_60 : decode cX8_lost 60 = .ok (.getfield 130, 3) := by decide +kernel
theorem dX8_lost_63 : decode cX8_lost 63 = .ok (.iload_n 3, 1) := by decide +kernel
theorem dX8_lost_64 : decode cX8_lost 64 = .ok (.iaload, 1) := by decide +kernel
theorem dX8_lost_65 : decode cX8_lost 65 = .ok (.istore 4, 2) := by decide +kernel
theorem dX8_lost_67 : decode cX8_lost 67 = .ok (.iload_n 1, 1) := by decide +kernel
theorem dX8_lost_68 : decode cX8_lost 68 = .ok (.aload_n 0, 1) := by decide +kernel
theorem dX8_lost_69 : decode cX8_lost 69 = .ok (.getfield 19, 3) := by decide +kernel
theorem dX8_lost_72 : decode cX8_lost 72 = .ok (.getfield 103, 3) := by decide +kernel
theorem dX8_lost_75 : decode cX8_lost 75 = .ok (.iload 4, 2) := by decide +kernel
theorem dX8_lost_77 : decode cX8_lost 77 = .ok (.iaload, 1) := by decide +kernel
theorem dX8_lost_78 : decode cX8_lost 78 = .ok (.ishr, 1) := by decide +kernel
theorem dX8_lost_79 : decode cX8_lost 79 = .ok (.iconst 1, 1) := by decide +kernel
theorem dX8_lost_80 : decode cX8_lost 80 = .ok (.iand, 1) := by decide +kernel
theorem dX8_lost_81 : decode cX8_lost 81 = .ok (.ifCond .ne 10, 3) := by decide +kernel
theorem dX8_lost_84 : decode cX8_lost 84 = .ok (.iload_n 2, 1) := by decide +kernel
theorem dX8_lost_85 : decode cX8_lost 85 = .ok (.iconst 1, 1) := by decide +kernel
theorem dX8_lost_86 : decode cX8_lost 86 = .ok (.iload 4, 2) := by decide +kernel
theorem dX8_lost_88 : decode cX8_lost 88 = .ok (.ishl, 1) := by decide +kernel
theorem dX8_lost_89 : decode cX8_lost 89 = .ok (.ior, 1) := by decide +kernel
theorem dX8_lost_90 : decode cX8_lost 90 = .ok (.istore_n 2, 1) := by decide +kernel
theorem dX8_lost_91 : decode cX8_lost 91 = .ok (.iinc 3 1, 3) := by decide +kernel
theorem dX8_lost_94 : decode cX8_lost 94 = .ok (.goto (-49), 3) := by decide +kernel
theorem dX8_lost_97 : decode cX8_lost 97 = .ok (.iload_n 2, 1) := by decide +kernel
theorem dX8_lost_98 : decode cX8_lost 98 = .ok (.ireturn, 1) := by decide +kernel
theorem dX8_wisest_0 : decode cX8_wisest 0 = .ok (.iconst (-1), 1) := by decide +kernel
theorem dX8_wisest_1 : decode cX8_wisest 1 = .ok (.istore_n 1, 1) := by decide +kernel
theorem dX8_wisest_2 : decode cX8_wisest 2 = .ok (.iconst (-1), 1) := by decide +kernel
theorem dX8_wisest_3 : decode cX8_wisest 3 = .ok (.istore_n 2, 1) := by decide +kernel
theorem dX8_wisest_4 : decode cX8_wisest 4 = .ok (.iconst 0, 1) := by decide +kernel
theorem dX8_wisest_5 : decode cX8_wisest 5 = .ok (.istore_n 3, 1) := by decide +kernel
theorem dX8_wisest_6 : decode cX8_wisest 6 = .ok (.iload_n 3, 1) := by decide +kernel
theorem dX8_wisest_7 : decode cX8_wisest 7 = .ok (.aload_n 0, 1) := by decide +kernel
theorem dX8_wisest_8 : decode cX8_wisest 8 = .ok (.getfield 19, 3) := by decide +kernel
theorem dX8_wisest_11 : decode cX8_wisest 11 = .ok (.getfield 187, 3) := by decide +kernel
theorem dX8_wisest_14 : decode cX8_wisest 14 = .ok (.if_icmp .ge 34, 3) := by decide +kernel
theorem dX8_wisest_17 : decode cX8_wisest 17 = .ok (.aload_n 0, 1) := by decide +kernel
theorem dX8_wisest_18 : decode cX8_wisest 18 = .ok (.getfield 39, 3) := by decide +kernel
theorem dX8_wisest_21 : decode cX8_wisest 21 = .ok (.getfield 109, 3) := by decide +kernel
theorem dX8_wisest_24 : decode cX8_wisest 24 = .ok (.iload_n 3, 1) := by decide +kernel
theorem dX8_wisest_25 : decode cX8_wisest 25 = .ok (.iaload, 1) := by decide +kernel
theorem dX8_wisest_26 : decode cX8_wisest 26 = .ok (.invokestatic 203, 3) := by decide +kernel
theorem dX8_wisest_29 : decode cX8_wisest 29 = .ok (.istore 4, 2) := by decide +kernel
theorem dX8_wisest_31 : decode cX8_wisest 31 = .ok (.iload 4, 2) := by decide +kernel
theorem dX8_wisest_33 : decode cX8_wisest 33 = .ok (.iload_n 1, 1) := by decide +kernel
theorem dX8_wisest_34 : decode cX8_wisest 34 = .ok (.if_icmp .le 8, 3) := by decide +kernel
theorem dX8_wisest_37 : decode cX8_wisest 37 = .ok (.iload 4, 2) := by decide +kernel
theorem dX8_wisest_39 : decode cX8_wisest 39 = .ok (.istore_n 1, 1) := by decide +kernel
theorem dX8_wisest_40 : decode cX8_wisest 40 = .ok (.iload_n 3, 1) := by decide +kernel
theorem dX8_wisest_41 : decode cX8_wisest 41 = .ok (.istore_n 2, 1) := by decide +kernel
theorem dX8_wisest_42 : decode cX8_wisest 42 = .ok (.iinc 3 1, 3) := by decide +kernel
theorem dX8_wisest_45 : decode cX8_wisest 45 = .ok (.goto (-39), 3) := by decide +kernel
theorem dX8_wisest_48 : decode cX8_wisest 48 = .ok (.iload_n 2, 1) := by decide +kernel
theorem dX8_wisest_49 : decode cX8_wisest 49 = .ok (.ireturn, 1) := by decide +kernel
theorem dX8_tell_0 : decode cX8_tell 0 = .ok (.aload_n 0, 1) := by decide +kernel
theorem dX8_tell_1 : decode cX8_tell 1 = .ok (.iload_n 1, 1) := by decide +kernel
theorem dX8_tell_2 : decode cX8_tell 2 = .ok (.invokevirtual 96, 3) := by decide +kernel
theorem dX8_tell_5 : decode cX8_tell 5 = .ok (.ifCond .ne 5, 3) := by decide +kernel
theorem dX8_tell_8 : decode cX8_tell 8 = .ok (.iconst 0, 1) := by decide +kernel
theorem dX8_tell_9 : decode cX8_tell 9 = .ok (.ireturn, 1) := by decide +kernel
theorem dX8_tell_10 : decode cX8_tell 10 = .ok (.iconst 1, 1) := by decide +kernel
theorem dX8_tell_11 : decode cX8_tell 11 = .ok (.iload_n 1, 1) := by decide +kernel
theorem dX8_tell_12 : decode cX8_tell 12 = .ok (.ishl, 1) := by decide +kernel
theorem dX8_tell_13 : decode cX8_tell 13 = .ok (.istore_n 3, 1) := by decide +kernel
theorem dX8_tell_14 : decode cX8_tell 14 = .ok (.aload_n 0, 1) := by decide +kernel
theorem dX8_tell_15 : decode cX8_tell 15 = .ok (.dup, 1) := by decide +kernel
theorem dX8_tell_16 : decode cX8_tell 16 = .ok (.getfield 238, 3) := by decide +kernel
theorem dX8_tell_19 : decode cX8_tell 19 = .ok (.iload_n 3, 1) := by decide +kernel
theorem dX8_tell_20 : decode cX8_tell 20 = .ok (.ior, 1) := by decide +kernel
theorem dX8_tell_21 : decode cX8_tell 21 = .ok (.putfield 238, 3) := by decide +kernel
theorem dX8_tell_24 : decode cX8_tell 24 = .ok (.aload_n 0, 1) := by decide +kernel
theorem dX8_tell_25 : decode cX8_tell 25 = .ok (.iload_n 2, 1) := by decide +kernel
theorem dX8_tell_26 : decode cX8_tell 26 = .ok (.ifCond .eq 12, 3) := by decide +kernel
theorem dX8_tell_29 : decode cX8_tell 29 = .ok (.aload_n 0, 1) := by decide +kernel
theorem dX8_tell_30 : decode cX8_tell 30 = .ok (.getfield 241, 3) := by decide +kernel
theorem dX8_tell_33 : decode cX8_tell 33 = .ok (.iload_n 3, 1) := by decide +kernel
theorem dX8_tell_34 : decode cX8_tell 34 = .ok (.ior, 1) := by decide +kernel
theorem dX8_tell_35 : decode cX8_tell 35 = .ok (.goto 11, 3) := by decide +kernel
theorem dX8_tell_38 : decode cX8_tell 38 = .ok (.aload_n 0, 1) := by decide +kernel
theorem dX8_tell_39 : decode cX8_tell 39 = .ok (.getfield 241, 3) := by decide +kernel
theorem dX8_tell_42 : decode cX8_tell 42 = .ok (.iload_n 3, 1) := by decide +kernel
theorem dX8_tell_43 : decode cX8_tell 43 = .ok (.iconst (-1), 1) := by decide +kernel
theorem dX8_tell_44 : decode cX8_tell 44 = .ok (.ixor, 1) := by decide +kernel
theorem dX8_tell_45 : decode cX8_tell 45 = .ok (.iand, 1) := by decide +kernel
theorem dX8_tell_46 : decode cX8_tell 46 = .ok (.putfield 241, 3) := by decide +kernel
theorem dX8_tell_49 : decode cX8_tell 49 = .ok (.iconst 1, 1) := by decide +kernel
theorem dX8_tell_50 : decode cX8_tell 50 = .ok (.ireturn, 1) := by decide +kernel
theorem dX8_sets_0 : decode cX8_sets 0 = .ok (.iload_n 1, 1) := by decide +kernel
theorem dX8_sets_1 : decode cX8_sets 1 = .ok (.ifCond .lt 8, 3) := by decide +kernel
theorem dX8_sets_4 : decode cX8_sets 4 = .ok (.iload_n 1, 1) := by decide +kernel
theorem dX8_sets_5 : decode cX8_sets 5 = .ok (.iconst 2, 1) := by decide +kernel
theorem dX8_sets_6 : decode cX8_sets 6 = .ok (.if_icmp .le 5, 3) := by decide +kernel
theorem dX8_sets_9 : decode cX8_sets 9 = .ok (.iconst (-1), 1) := by decide +kernel
theorem dX8_sets_10 : decode cX8_sets 10 = .ok (.ireturn, 1) := by decide +kernel
theorem dX8_sets_11 : decode cX8_sets 11 = .ok (.aload_n 0, 1) := by decide +kernel
theorem dX8_sets_12 : decode cX8_sets 12 = .ok (.invokevirtual 199, 3) := by decide +kernel
theorem dX8_sets_15 : decode cX8_sets 15 = .ok (.istore_n 2, 1) := by decide +kernel
theorem dX8_sets_16 : decode cX8_sets 16 = .ok (.iconst 0, 1) := by decide +kernel
theorem dX8_sets_17 : decode cX8_sets 17 = .ok (.istore_n 3, 1) := by decide +kernel
theorem dX8_sets_18 : decode cX8_sets 18 = .ok (.iload_n 2, 1) := by decide +kernel
theorem dX8_sets_19 : decode cX8_sets 19 = .ok (.istore 4, 2) := by decide +kernel
theorem dX8_sets_21 : decode cX8_sets 21 = .ok (.iconst 0, 1) := by decide +kernel
theorem dX8_sets_22 : decode cX8_sets 22 = .ok (.istore 5, 2) := by decide +kernel
theorem dX8_sets_24 : decode cX8_sets 24 = .ok (.iconst 0, 1) := by decide +kernel
theorem dX8_sets_25 : decode cX8_sets 25 = .ok (.istore 6, 2) := by decide +kernel
theorem dX8_sets_27 : decode cX8_sets 27 = .ok (.iload 6, 2) := by decide +kernel
theorem dX8_sets_29 : decode cX8_sets 29 = .ok (.bipush 64, 2) := by decide +kernel
theorem dX8_sets_31 : decode cX8_sets 31 = .ok (.if_icmp .ge 48, 3) := by decide +kernel
theorem dX8_sets_34 : decode cX8_sets 34 = .ok (.iload 6, 2) := by decide +kernel
theorem dX8_sets_36 : decode cX8_sets 36 = .ok (.iload_n 2, 1) := by decide +kernel
theorem dX8_sets_37 : decode cX8_sets 37 = .ok (.iconst (-1), 1) := by decide +kernel
theorem dX8_sets_38 : decode cX8_sets 38 = .ok (.ixor, 1) := by decide +kernel
theorem dX8_sets_39 : decode cX8_sets 39 = .ok (.iand, 1) := by decide +kernel
theorem dX8_sets_40 : decode cX8_sets 40 = .ok (.ifCond .ne 33, 3) := by decide +kernel
theorem dX8_sets_43 : decode cX8_sets 43 = .ok (.aload_n 0, 1) := by decide +kernel
theorem dX8_sets_44 : decode cX8_sets 44 = .ok (.aload_n 0, 1) := by decide +kernel
theorem dX8_sets_45 : decode cX8_sets 45 = .ok (.iload 6, 2) := by decide +kernel
theorem dX8_sets_47 : decode cX8_sets 47 = .ok (.invokevirtual 208, 3) := by decide +kernel
theorem dX8_sets_50 : decode cX8_sets 50 = .ok (.invokevirtual 244, 3) := by decide +kernel
theorem dX8_sets_53 : decode cX8_sets 53 = .ok (.ifCond .eq 20, 3) := by decide +kernel
theorem dX8_sets_56 : decode cX8_sets 56 = .ok (.iinc 3 1, 3) := by decide +kernel
theorem dX8_sets_59 : decode cX8_sets 59 = .ok (.iload 4, 2) := by decide +kernel
theorem dX8_sets_61 : decode cX8_sets 61 = .ok (.iload 6, 2) := by decide +kernel
theorem dX8_sets_63 : decode cX8_sets 63 = .ok (.iand, 1) := by decide +kernel
theorem dX8_sets_64 : decode cX8_sets 64 = .ok (.istore 4, 2) := by decide +kernel
theorem dX8_sets_66 : decode cX8_sets 66 = .ok (.iload 5, 2) := by decide +kernel
theorem dX8_sets_68 : decode cX8_sets 68 = .ok (.iload 6, 2) := by decide +kernel
theorem dX8_sets_70 : decode cX8_sets 70 = .ok (.ior, 1) := by decide +kernel
theorem dX8_sets_71 : decode cX8_sets 71 = .ok (.istore 5, 2) := by decide +kernel
theorem dX8_sets_73 : decode cX8_sets 73 = .ok (.iinc 6 1, 3) := by decide +kernel
theorem dX8_sets_76 : decode cX8_sets 76 = .ok (.goto (-49), 3) := by decide +kernel
theorem dX8_sets_79 : decode cX8_sets 79 = .ok (.iload_n 1, 1) := by decide +kernel
theorem dX8_sets_80 : decode cX8_sets 80 = .ok (.ifCond .ne 5, 3) := by decide +kernel
theorem dX8_sets_83 : decode cX8_sets 83 = .ok (.iload_n 3, 1) := by decide +kernel
theorem dX8_sets_84 : decode cX8_sets 84 = .ok (.ireturn, 1) := by decide +kernel
theorem dX8_sets_85 : decode cX8_sets 85 = .ok (.iload_n 3, 1) := by decide +kernel
theorem dX8_sets_86 : decode cX8_sets 86 = .ok (.ifCond .ne 5, 3) := by decide +kernel
theorem dX8_sets_89 : decode cX8_sets 89 = .ok (.iconst (-1), 1) := by decide +kernel
theorem dX8_sets_90 : decode cX8_sets 90 = .ok (.ireturn, 1) := by decide +kernel
theorem dX8_sets_91 : decode cX8_sets 91 = .ok (.iload_n 1, 1) := by decide +kernel
theorem dX8_sets_92 : decode cX8_sets 92 = .ok (.iconst 1, 1) := by decide +kernel
theorem dX8_sets_93 : decode cX8_sets 93 = .ok (.if_icmp .ne 8, 3) := by decide +kernel
theorem dX8_sets_96 : decode cX8_sets 96 = .ok (.iload 4, 2) := by decide +kernel
theorem dX8_sets_98 : decode cX8_sets 98 = .ok (.goto 5, 3) := by decide +kernel
theorem dX8_sets_101 : decode cX8_sets 101 = .ok (.iload 5, 2) := by decide +kernel
theorem dX8_sets_103 : decode cX8_sets 103 = .ok (.ireturn, 1) := by decide +kernel
theorem dX8_ask_0 : decode cX8_ask 0 = .ok (.iconst 0, 1) := by decide +kernel
theorem dX8_ask_1 : decode cX8_ask 1 = .ok (.istore_n 1, 1) := by decide +kernel
theorem dX8_ask_2 : decode cX8_ask 2 = .ok (.iconst 0, 1) := by decide +kernel
theorem dX8_ask_3 : decode cX8_ask 3 = .ok (.istore_n 2, 1) := by decide +kernel
theorem dX8_ask_4 : decode cX8_ask 4 = .ok (.iload_n 2, 1) := by decide +kernel
theorem dX8_ask_5 : decode cX8_ask 5 = .ok (.aload_n 0, 1) := by decide +kernel
theorem dX8_ask_6 : decode cX8_ask 6 = .ok (.getfield 66, 3) := by decide +kernel
theorem dX8_ask_9 : decode cX8_ask 9 = .ok (.arraylength, 1) := by decide +kernel
theorem dX8_ask_10 : decode cX8_ask 10 = .ok (.if_icmp .ge 16, 3) := by decide +kernel
theorem dX8_ask_13 : decode cX8_ask 13 = .ok (.aload_n 0, 1) := by decide +kernel
theorem dX8_ask_14 : decode cX8_ask 14 = .ok (.getfield 66, 3) := by decide +kernel
theorem dX8_ask_17 : decode cX8_ask 17 = .ok (.iload_n 2, 1) := by decide +kernel
theorem dX8_ask_18 : decode cX8_ask 18 = .ok (.iconst 0, 1) := by decide +kernel
theorem dX8_ask_19 : decode cX8_ask 19 = .ok (.iastore, 1) := by decide +kernel
theorem dX8_ask_20 : decode cX8_ask 20 = .ok (.iinc 2 1, 3) := by decide +kernel
theorem dX8_ask_23 : decode cX8_ask 23 = .ok (.goto (-19), 3) := by decide +kernel
theorem dX8_ask_26 : decode cX8_ask 26 = .ok (.aload_n 0, 1) := by decide +kernel
theorem dX8_ask_27 : decode cX8_ask 27 = .ok (.invokevirtual 199, 3) := by decide +kernel
theorem dX8_ask_30 : decode cX8_ask 30 = .ok (.istore_n 2, 1) := by decide +kernel
theorem dX8_ask_31 : decode cX8_ask 31 = .ok (.iconst 0, 1) := by decide +kernel
theorem dX8_ask_32 : decode cX8_ask 32 = .ok (.istore_n 3, 1) := by decide +kernel
theorem dX8_ask_33 : decode cX8_ask 33 = .ok (.iload_n 3, 1) := by decide +kernel
theorem dX8_ask_34 : decode cX8_ask 34 = .ok (.bipush 64, 2) := by decide +kernel
theorem dX8_ask_36 : decode cX8_ask 36 = .ok (.if_icmp .ge 52, 3) := by decide +kernel
theorem dX8_ask_39 : decode cX8_ask 39 = .ok (.iload_n 3, 1) := by decide +kernel
theorem dX8_ask_40 : decode cX8_ask 40 = .ok (.iload_n 2, 1) := by decide +kernel
theorem dX8_ask_41 : decode cX8_ask 41 = .ok (.iconst (-1), 1) := by decide +kernel
theorem dX8_ask_42 : decode cX8_ask 42 = .ok (.ixor, 1) := by decide +kernel
theorem dX8_ask_43 : decode cX8_ask 43 = .ok (.iand, 1) := by decide +kernel
theorem dX8_ask_44 : decode cX8_ask 44 = .ok (.ifCond .ne 11, 3) := by decide +kernel
theorem dX8_ask_47 : decode cX8_ask 47 = .ok (.aload_n 0, 1) := by decide +kernel
theorem dX8_ask_48 : decode cX8_ask 48 = .ok (.iload_n 3, 1) := by decide +kernel
theorem dX8_ask_49 : decode cX8_ask 49 = .ok (.invokevirtual 208, 3) := by decide +kernel
theorem dX8_ask_52 : decode cX8_ask 52 = .ok (.goto 4, 3) := by decide +kernel
theorem dX8_ask_55 : decode cX8_ask 55 = .ok (.iconst (-1), 1) := by decide +kernel
theorem dX8_ask_56 : decode cX8_ask 56 = .ok (.istore 4, 2) := by decide +kernel
theorem dX8_ask_58 : decode cX8_ask 58 = .ok (.iload 4, 2) := by decide +kernel
theorem dX8_ask_60 : decode cX8_ask 60 = .ok (.iconst (-1), 1) := by decide +kernel
theorem dX8_ask_61 : decode cX8_ask 61 = .ok (.if_icmp .eq 21, 3) := by decide +kernel
theorem dX8_ask_64 : decode cX8_ask 64 = .ok (.aload_n 0, 1) := by decide +kernel
theorem dX8_ask_65 : decode cX8_ask 65 = .ok (.iload 4, 2) := by decide +kernel
theorem dX8_ask_67 : decode cX8_ask 67 = .ok (.invokevirtual 244, 3) := by decide +kernel
theorem dX8_ask_70 : decode cX8_ask 70 = .ok (.ifCond .eq 12, 3) := by decide +kernel
theorem dX8_ask_73 : decode cX8_ask 73 = .ok (.iinc 1 1, 3) := by decide +kernel
theorem dX8_ask_76 : decode cX8_ask 76 = .ok (.aload_n 0, 1) := by decide +kernel
theorem dX8_ask_77 : decode cX8_ask 77 = .ok (.iload 4, 2) := by decide +kernel
theorem dX8_ask_79 : decode cX8_ask 79 = .ok (.invokevirtual 247, 3) := by decide +kernel
theorem dX8_ask_82 : decode cX8_ask 82 = .ok (.iinc 3 1, 3) := by decide +kernel
theorem dX8_ask_85 : decode cX8_ask 85 = .ok (.goto (-52), 3) := by decide +kernel
theorem dX8_ask_88 : decode cX8_ask 88 = .ok (.aload_n 0, 1) := by decide +kernel
theorem dX8_ask_89 : decode cX8_ask 89 = .ok (.iload_n 1, 1) := by decide +kernel
theorem dX8_ask_90 : decode cX8_ask 90 = .ok (.invokevirtual 250, 3) := by decide +kernel
theorem dX8_ask_93 : decode cX8_ask 93 = .ok (.ireturn, 1) := by decide +kernel
theorem dX8_chance_0 : decode cX8_chance 0 = .ok (.aload_n 0, 1) := by decide +kernel
theorem dX8_chance_1 : decode cX8_chance 1 = .ok (.iload_n 1, 1) := by decide +kernel
theorem dX8_chance_2 : decode cX8_chance 2 = .ok (.invokevirtual 143, 3) := by decide +kernel
theorem dX8_chance_5 : decode cX8_chance 5 = .ok (.ifCond .ne 5, 3) := by decide +kernel
theorem dX8_chance_8 : decode cX8_chance 8 = .ok (.iconst (-1), 1) := by decide +kernel
theorem dX8_chance_9 : decode cX8_chance 9 = .ok (.ireturn, 1) := by decide +kernel
theorem dX8_chance_10 : decode cX8_chance 10 = .ok (.iconst 0, 1) := by decide +kernel
theorem dX8_chance_11 : decode cX8_chance 11 = .ok (.istore_n 2, 1) := by decide +kernel
theorem dX8_chance_12 : decode cX8_chance 12 = .ok (.iconst 0, 1) := by decide +kernel
theorem dX8_chance_13 : decode cX8_chance 13 = .ok (.istore_n 3, 1) := by decide +kernel
theorem dX8_chance_14 : decode cX8_chance 14 = .ok (.aload_n 0, 1) := by decide +kernel
theorem dX8_chance_15 : decode cX8_chance 15 = .ok (.getfield 63, 3) := by decide +kernel
theorem dX8_chance_18 : decode cX8_chance 18 = .ok (.aload_n 0, 1) := by decide +kernel
theorem dX8_chance_19 : decode cX8_chance 19 = .ok (.getfield 39, 3) := by decide +kernel
theorem dX8_chance_22 : decode cX8_chance 22 = .ok (.invokevirtual 215, 3) := by decide +kernel
theorem dX8_chance_25 : decode cX8_chance 25 = .ok (.invokevirtual 218, 3) := by decide +kernel
theorem dX8_chance_28 : decode cX8_chance 28 = .ok (.iconst 1, 1) := by decide +kernel
theorem dX8_chance_29 : decode cX8_chance 29 = .ok (.istore 4, 2) := by decide +kernel
theorem dX8_chance_31 : decode cX8_chance 31 = .ok (.iload 4, 2) := by decide +kernel
theorem dX8_chance_33 : decode cX8_chance 33 = .ok (.ifCond .eq 40, 3) := by decide +kernel
theorem dX8_chance_36 : decode cX8_chance 36 = .ok (.iload_n 2, 1) := by decide +kernel
theorem dX8_chance_37 : decode cX8_chance 37 = .ok (.sipush 720, 3) := by decide +kernel
theorem dX8_chance_40 : decode cX8_chance 40 = .ok (.if_icmp .ge 33, 3) := by decide +kernel
theorem dX8_chance_43 : decode cX8_chance 43 = .ok (.iload_n 3, 1) := by decide +kernel
theorem dX8_chance_44 : decode cX8_chance 44 = .ok (.aload_n 0, 1) := by decide +kernel
theorem dX8_chance_45 : decode cX8_chance 45 = .ok (.aload_n 0, 1) := by decide +kernel
theorem dX8_chance_46 : decode cX8_chance 46 = .ok (.getfield 63, 3) := by decide +kernel
theorem dX8_chance_49 : decode cX8_chance 49 = .ok (.invokevirtual 221, 3) := by decide +kernel
theorem dX8_chance_52 : decode cX8_chance 52 = .ok (.iload_n 1, 1) := by decide +kernel
theorem dX8_chance_53 : decode cX8_chance 53 = .ok (.ishr, 1) := by decide +kernel
theorem dX8_chance_54 : decode cX8_chance 54 = .ok (.iconst 1, 1) := by decide +kernel
theorem dX8_chance_55 : decode cX8_chance 55 = .ok (.iand, 1) := by decide +kernel
theorem dX8_chance_56 : decode cX8_chance 56 = .ok (.iadd, 1) := by decide +kernel
theorem dX8_chance_57 : decode cX8_chance 57 = .ok (.istore_n 3, 1) := by decide +kernel
theorem dX8_chance_58 : decode cX8_chance 58 = .ok (.iinc 2 1, 3) := by decide +kernel
theorem dX8_chance_61 : decode cX8_chance 61 = .ok (.aload_n 0, 1) := by decide +kernel
theorem dX8_chance_62 : decode cX8_chance 62 = .ok (.getfield 63, 3) := by decide +kernel
theorem dX8_chance_65 : decode cX8_chance 65 = .ok (.invokevirtual 234, 3) := by decide +kernel
theorem dX8_chance_68 : decode cX8_chance 68 = .ok (.istore 4, 2) := by decide +kernel
theorem dX8_chance_70 : decode cX8_chance 70 = .ok (.goto (-39), 3) := by decide +kernel
theorem dX8_chance_73 : decode cX8_chance 73 = .ok (.iload_n 2, 1) := by decide +kernel
theorem dX8_chance_74 : decode cX8_chance 74 = .ok (.ifCond .le 12, 3) := by decide +kernel
theorem dX8_chance_77 : decode cX8_chance 77 = .ok (.iload_n 3, 1) := by decide +kernel
theorem dX8_chance_78 : decode cX8_chance 78 = .ok (.ldc 253, 2) := by decide +kernel
theorem dX8_chance_80 : decode cX8_chance 80 = .ok (.imul, 1) := by decide +kernel
theorem dX8_chance_81 : decode cX8_chance 81 = .ok (.iload_n 2, 1) := by decide +kernel
theorem dX8_chance_82 : decode cX8_chance 82 = .ok (.idiv, 1) := by decide +kernel
theorem dX8_chance_83 : decode cX8_chance 83 = .ok (.goto 4, 3) := by decide +kernel
theorem dX8_chance_86 : decode cX8_chance 86 = .ok (.iconst 0, 1) := by decide +kernel
theorem dX8_chance_87 : decode cX8_chance 87 = .ok (.ireturn, 1) := by decide +kernel
theorem dX8_other_0 : decode cX8_other 0 = .ok (.iload_n 1, 1) := by decide +kernel
theorem dX8_other_1 : decode cX8_other 1 = .ok (.iconst 1, 1) := by decide +kernel
theorem dX8_other_2 : decode cX8_other 2 = .ok (.if_icmp .lt 9, 3) := by decide +kernel
theorem dX8_other_5 : decode cX8_other 5 = .ok (.iload_n 1, 1) := by decide +kernel
theorem dX8_other_6 : decode cX8_other 6 = .ok (.bipush 20, 2) := by decide +kernel
theorem dX8_other_8 : decode cX8_other 8 = .ok (.if_icmp .le 7, 3) := by decide +kernel
theorem dX8_other_11 : decode cX8_other 11 = .ok (.iconst (-1), 1) := by decide +kernel
theorem dX8_other_12 : decode cX8_other 12 = .ok (.goto 9, 3) := by decide +kernel
theorem dX8_other_15 : decode cX8_other 15 = .ok (.aload_n 0, 1) := by decide +kernel
theorem dX8_other_16 : decode cX8_other 16 = .ok (.iload_n 1, 1) := by decide +kernel
theorem dX8_other_17 : decode cX8_other 17 = .ok (.iconst 2, 1) := by decide +kernel
theorem dX8_other_18 : decode cX8_other 18 = .ok (.invokevirtual 174, 3) := by decide +kernel
theorem dX8_other_21 : decode cX8_other 21 = .ok (.ireturn, 1) := by decide +kernel
theorem dX8_rests_0 : decode cX8_rests 0 = .ok (.iload_n 1, 1) := by decide +kernel
theorem dX8_rests_1 : decode cX8_rests 1 = .ok (.invokestatic 254, 3) := by decide +kernel
theorem dX8_rests_4 : decode cX8_rests 4 = .ok (.ifCond .eq 23, 3) := by decide +kernel
theorem dX8_rests_7 : decode cX8_rests 7 = .ok (.iload_n 2, 1) := by decide +kernel
theorem dX8_rests_8 : decode cX8_rests 8 = .ok (.invokestatic 254, 3) := by decide +kernel
theorem dX8_rests_11 : decode cX8_rests 11 = .ok (.ifCond .eq 16, 3) := by decide +kernel
theorem dX8_rests_14 : decode cX8_rests 14 = .ok (.iload_n 3, 1) := by decide +kernel
theorem dX8_rests_15 : decode cX8_rests 15 = .ok (.invokestatic 254, 3) := by decide +kernel
theorem dX8_rests_18 : decode cX8_rests 18 = .ok (.ifCond .eq 9, 3) := by decide +kernel
theorem dX8_rests_21 : decode cX8_rests 21 = .ok (.iload 4, 2) := by decide +kernel
theorem dX8_rests_23 : decode cX8_rests 23 = .ok (.iconst (-1), 1) := by decide +kernel
theorem dX8_rests_24 : decode cX8_rests 24 = .ok (.if_icmp .ge 11, 3) := by decide +kernel
theorem dX8_rests_27 : decode cX8_rests 27 = .ok (.new 257, 3) := by decide +kernel
theorem dX8_rests_30 : decode cX8_rests 30 = .ok (.dup, 1) := by decide +kernel
theorem dX8_rests_31 : decode cX8_rests 31 = .ok (.invokespecial 259, 3) := by decide +kernel
theorem dX8_rests_34 : decode cX8_rests 34 = .ok (.athrow, 1) := by decide +kernel
theorem dX8_rests_35 : decode cX8_rests 35 = .ok (.iconst 0, 1) := by decide +kernel
theorem dX8_rests_36 : decode cX8_rests 36 = .ok (.istore 5, 2) := by decide +kernel
theorem dX8_rests_38 : decode cX8_rests 38 = .ok (.iconst 0, 1) := by decide +kernel
theorem dX8_rests_39 : decode cX8_rests 39 = .ok (.istore 6, 2) := by decide +kernel
theorem dX8_rests_41 : decode cX8_rests 41 = .ok (.iload 6, 2) := by decide +kernel
theorem dX8_rests_43 : decode cX8_rests 43 = .ok (.iconst 4, 1) := by decide +kernel
theorem dX8_rests_44 : decode cX8_rests 44 = .ok (.if_icmp .ge 92, 3) := by decide +kernel
theorem dX8_rests_47 : decode cX8_rests 47 = .ok (.iload 6, 2) := by decide +kernel
theorem dX8_rests_49 : decode cX8_rests 49 = .ok (.iconst 1, 1) := by decide +kernel
theorem dX8_rests_50 : decode cX8_rests 50 = .ok (.ishr, 1) := by decide +kernel
theorem dX8_rests_51 : decode cX8_rests 51 = .ok (.istore 7, 2) := by decide +kernel
theorem dX8_rests_53 : decode cX8_rests 53 = .ok (.iload 6, 2) := by decide +kernel
theorem dX8_rests_55 : decode cX8_rests 55 = .ok (.iconst 1, 1) := by decide +kernel
theorem dX8_rests_56 : decode cX8_rests 56 = .ok (.iand, 1) := by decide +kernel
theorem dX8_rests_57 : decode cX8_rests 57 = .ok (.istore 8, 2) := by decide +kernel
theorem dX8_rests_59 : decode cX8_rests 59 = .ok (.iload 7, 2) := by decide +kernel
theorem dX8_rests_61 : decode cX8_rests 61 = .ok (.iload 8, 2) := by decide +kernel
theorem dX8_rests_63 : decode cX8_rests 63 = .ok (.iload_n 1, 1) := by decide +kernel
theorem dX8_rests_64 : decode cX8_rests 64 = .ok (.iload_n 2, 1) := by decide +kernel
theorem dX8_rests_65 : decode cX8_rests 65 = .ok (.iload_n 3, 1) := by decide +kernel
theorem dX8_rests_66 : decode cX8_rests 66 = .ok (.invokestatic 260, 3) := by decide +kernel
theorem dX8_rests_69 : decode cX8_rests 69 = .ok (.istore 9, 2) := by decide +kernel
theorem dX8_rests_71 : decode cX8_rests 71 = .ok (.iload 8, 2) := by decide +kernel
theorem dX8_rests_73 : decode cX8_rests 73 = .ok (.iload 7, 2) := by decide +kernel
theorem dX8_rests_75 : decode cX8_rests 75 = .ok (.iload_n 1, 1) := by decide +kernel
theorem dX8_rests_76 : decode cX8_rests 76 = .ok (.iload_n 2, 1) := by decide +kernel
theorem dX8_rests_77 : decode cX8_rests 77 = .ok (.iload_n 3, 1) := by decide +kernel
theorem dX8_rests_78 : decode cX8_rests 78 = .ok (.invokestatic 260, 3) := by decide +kernel
theorem dX8_rests_81 : decode cX8_rests 81 = .ok (.istore 10, 2) := by decide +kernel
theorem dX8_rests_83 : decode cX8_rests 83 = .ok (.iload 9, 2) := by decide +kernel
theorem dX8_rests_85 : decode cX8_rests 85 = .ok (.iconst 1, 1) := by decide +kernel
theorem dX8_rests_86 : decode cX8_rests 86 = .ok (.iload 7, 2) := by decide +kernel
theorem dX8_rests_88 : decode cX8_rests 88 = .ok (.isub, 1) := by decide +kernel
theorem dX8_rests_89 : decode cX8_rests 89 = .ok (.iload 8, 2) := by decide +kernel
theorem dX8_rests_91 : decode cX8_rests 91 = .ok (.iload_n 1, 1) := by decide +kernel
theorem dX8_rests_92 : decode cX8_rests 92 = .ok (.iload_n 2, 1) := by decide +kernel
theorem dX8_rests_93 : decode cX8_rests 93 = .ok (.iload_n 3, 1) := by decide +kernel
theorem dX8_rests_94 : decode cX8_rests 94 = .ok (.invokestatic 260, 3) := by decide +kernel
theorem dX8_rests_97 : decode cX8_rests 97 = .ok (.if_icmp .lt 33, 3) := by decide +kernel
theorem dX8_rests_100 : decode cX8_rests 100 = .ok (.iload 10, 2) := by decide +kernel
theorem dX8_rests_102 : decode cX8_rests 102 = .ok (.iconst 1, 1) := by decide +kernel
theorem dX8_rests_103 : decode cX8_rests 103 = .ok (.iload 8, 2) := by decide +kernel
theorem dX8_rests_105 : decode cX8_rests 105 = .ok (.isub, 1) := by decide +kernel
theorem dX8_rests_106 : decode cX8_rests 106 = .ok (.iload 7, 2) := by decide +kernel
theorem dX8_rests_108 : decode cX8_rests 108 = .ok (.iload_n 1, 1) := by decide +kernel
theorem dX8_rests_109 : decode cX8_rests 109 = .ok (.iload_n 2, 1) := by decide +kernel
theorem dX8_rests_110 : decode cX8_rests 110 = .ok (.iload_n 3, 1) := by decide +kernel
theorem dX8_rests_111 : decode cX8_rests 111 = .ok (.invokestatic 260, 3) := by decide +kernel
theorem dX8_rests_114 : decode cX8_rests 114 = .ok (.if_icmp .lt 16, 3) := by decide +kernel
theorem dX8_rests_117 : decode cX8_rests 117 = .ok (.iload 5, 2) := by decide +kernel
theorem dX8_rests_119 : decode cX8_rests 119 = .ok (.iload 4, 2) := by decide +kernel
theorem dX8_rests_121 : decode cX8_rests 121 = .ok (.if_icmp .ne 6, 3) := by decide +kernel
theorem dX8_rests_124 : decode cX8_rests 124 = .ok (.iload 6, 2) := by decide +kernel
theorem dX8_rests_126 : decode cX8_rests 126 = .ok (.ireturn, 1) := by decide +kernel
theorem dX8_rests_127 : decode cX8_rests 127 = .ok (.iinc 5 1, 3) := by decide +kernel
theorem dX8_rests_130 : decode cX8_rests 130 = .ok (.iinc 6 1, 3) := by decide +kernel
theorem dX8_rests_133 : decode cX8_rests 133 = .ok (.goto (-92), 3) := by decide +kernel
theorem dX8_rests_136 : decode cX8_rests 136 = .ok (.iload 4, 2) := by decide +kernel
theorem dX8_rests_138 : decode cX8_rests 138 = .ok (.iconst (-1), 1) := by decide +kernel
theorem dX8_rests_139 : decode cX8_rests 139 = .ok (.if_icmp .eq 11, 3) := by decide +kernel
theorem dX8_rests_142 : decode cX8_rests 142 = .ok (.new 257, 3) := by decide +kernel
theorem dX8_rests_145 : decode cX8_rests 145 = .ok (.dup, 1) := by decide +kernel
theorem dX8_rests_146 : decode cX8_rests 146 = .ok (.invokespecial 259, 3) := by decide +kernel
theorem dX8_rests_149 : decode cX8_rests 149 = .ok (.athrow, 1) := by decide +kernel
theorem dX8_rests_150 : decode cX8_rests 150 = .ok (.iload 5, 2) := by decide +kernel
theorem dX8_rests_152 : decode cX8_rests 152 = .ok (.ireturn, 1) := by decide +kernel
theorem dX8_days_0 : decode cX8_days 0 = .ok (.iload_n 1, 1) := by decide +kernel
theorem dX8_days_1 : decode cX8_days 1 = .ok (.ifCond .lt 25, 3) := by decide +kernel
theorem dX8_days_4 : decode cX8_days 4 = .ok (.iload_n 1, 1) := by decide +kernel
theorem dX8_days_5 : decode cX8_days 5 = .ok (.sipush 9999, 3) := by decide +kernel
theorem dX8_days_8 : decode cX8_days 8 = .ok (.if_icmp .gt 18, 3) := by decide +kernel
theorem dX8_days_11 : decode cX8_days 11 = .ok (.iload_n 2, 1) := by decide +kernel
theorem dX8_days_12 : decode cX8_days 12 = .ok (.iconst 1, 1) := by decide +kernel
theorem dX8_days_13 : decode cX8_days 13 = .ok (.if_icmp .lt 13, 3) := by decide +kernel
theorem dX8_days_16 : decode cX8_days 16 = .ok (.iload_n 2, 1) := by decide +kernel
theorem dX8_days_17 : decode cX8_days 17 = .ok (.bipush 99, 2) := by decide +kernel
theorem dX8_days_19 : decode cX8_days 19 = .ok (.if_icmp .gt 7, 3) := by decide +kernel
theorem dX8_days_22 : decode cX8_days 22 = .ok (.iconst 1, 1) := by decide +kernel
theorem dX8_days_23 : decode cX8_days 23 = .ok (.goto 4, 3) := by decide +kernel
theorem dX8_days_26 : decode cX8_days 26 = .ok (.iconst 0, 1) := by decide +kernel
theorem dX8_days_27 : decode cX8_days 27 = .ok (.istore 4, 2) := by decide +kernel
theorem dX8_days_29 : decode cX8_days 29 = .ok (.iload 4, 2) := by decide +kernel
theorem dX8_days_31 : decode cX8_days 31 = .ok (.ifCond .eq 12, 3) := by decide +kernel
theorem dX8_days_34 : decode cX8_days 34 = .ok (.iload_n 3, 1) := by decide +kernel
theorem dX8_days_35 : decode cX8_days 35 = .ok (.ifCond .lt 8, 3) := by decide +kernel
theorem dX8_days_38 : decode cX8_days 38 = .ok (.iload_n 3, 1) := by decide +kernel
theorem dX8_days_39 : decode cX8_days 39 = .ok (.iconst 2, 1) := by decide +kernel
theorem dX8_days_40 : decode cX8_days 40 = .ok (.if_icmp .le 5, 3) := by decide +kernel
theorem dX8_days_43 : decode cX8_days 43 = .ok (.iconst (-1), 1) := by decide +kernel
theorem dX8_days_44 : decode cX8_days 44 = .ok (.ireturn, 1) := by decide +kernel
theorem dX8_days_45 : decode cX8_days 45 = .ok (.aload_n 0, 1) := by decide +kernel
theorem dX8_days_46 : decode cX8_days 46 = .ok (.getfield 43, 3) := by decide +kernel
theorem dX8_days_49 : decode cX8_days 49 = .ok (.aload_n 0, 1) := by decide +kernel
theorem dX8_days_50 : decode cX8_days 50 = .ok (.getfield 39, 3) := by decide +kernel
theorem dX8_days_53 : decode cX8_days 53 = .ok (.invokevirtual 166, 3) := by decide +kernel
theorem dX8_days_56 : decode cX8_days 56 = .ok (.iload_n 1, 1) := by decide +kernel
theorem dX8_days_57 : decode cX8_days 57 = .ok (.i2l, 1) := by decide +kernel
theorem dX8_days_58 : decode cX8_days 58 = .ok (.lstore 5, 2) := by decide +kernel
theorem dX8_days_60 : decode cX8_days 60 = .ok (.iconst 0, 1) := by decide +kernel
theorem dX8_days_61 : decode cX8_days 61 = .ok (.istore 7, 2) := by decide +kernel
theorem dX8_days_63 : decode cX8_days 63 = .ok (.iconst 0, 1) := by decide +kernel
theorem dX8_days_64 : decode cX8_days 64 = .ok (.istore 8, 2) := by decide +kernel
theorem dX8_days_66 : decode cX8_days 66 = .ok (.iload 8, 2) := by decide +kernel
theorem dX8_days_68 : decode cX8_days 68 = .ok (.iload_n 2, 1) := by decide +kernel
theorem dX8_days_69 : decode cX8_days 69 = .ok (.if_icmp .ge 43, 3) := by decide +kernel
theorem dX8_days_72 : decode cX8_days 72 = .ok (.aload_n 0, 1) := by decide +kernel
theorem dX8_days_73 : decode cX8_days 73 = .ok (.lload 5, 2) := by decide +kernel
theorem dX8_days_75 : decode cX8_days 75 = .ok (.invokevirtual 264, 3) := by decide +kernel
theorem dX8_days_78 : decode cX8_days 78 = .ok (.lstore 5, 2) := by decide +kernel
theorem dX8_days_80 : decode cX8_days 80 = .ok (.iload 7, 2) := by decide +kernel
theorem dX8_days_82 : decode cX8_days 82 = .ok (.aload_n 0, 1) := by decide +kernel
theorem dX8_days_83 : decode cX8_days 83 = .ok (.getfield 43, 3) := by decide +kernel
theorem dX8_days_86 : decode cX8_days 86 = .ok (.aload_n 0, 1) := by decide +kernel
theorem dX8_days_87 : decode cX8_days 87 = .ok (.getfield 19, 3) := by decide +kernel
theorem dX8_days_90 : decode cX8_days 90 = .ok (.aload_n 0, 1) := by decide +kernel
theorem dX8_days_91 : decode cX8_days 91 = .ok (.getfield 19, 3) := by decide +kernel
theorem dX8_days_94 : decode cX8_days 94 = .ok (.getfield 153, 3) := by decide +kernel
theorem dX8_days_97 : decode cX8_days 97 = .ok (.invokevirtual 156, 3) := by decide +kernel
theorem dX8_days_100 : decode cX8_days 100 = .ok (.invokestatic 203, 3) := by decide +kernel
theorem dX8_days_103 : decode cX8_days 103 = .ok (.iadd, 1) := by decide +kernel
theorem dX8_days_104 : decode cX8_days 104 = .ok (.istore 7, 2) := by decide +kernel
theorem dX8_days_106 : decode cX8_days 106 = .ok (.iinc 8 1, 3) := by decide +kernel
theorem dX8_days_109 : decode cX8_days 109 = .ok (.goto (-43), 3) := by decide +kernel
theorem dX8_days_112 : decode cX8_days 112 = .ok (.iload_n 3, 1) := by decide +kernel
theorem dX8_days_113 : decode cX8_days 113 = .ok (.ifCond .ne 6, 3) := by decide +kernel
theorem dX8_days_116 : decode cX8_days 116 = .ok (.iload 7, 2) := by decide +kernel
theorem dX8_days_118 : decode cX8_days 118 = .ok (.ireturn, 1) := by decide +kernel
theorem dX8_days_119 : decode cX8_days 119 = .ok (.iload_n 3, 1) := by decide +kernel
theorem dX8_days_120 : decode cX8_days 120 = .ok (.iconst 1, 1) := by decide +kernel
theorem dX8_days_121 : decode cX8_days 121 = .ok (.if_icmp .ne 13, 3) := by decide +kernel
theorem dX8_days_124 : decode cX8_days 124 = .ok (.aload_n 0, 1) := by decide +kernel
theorem dX8_days_125 : decode cX8_days 125 = .ok (.getfield 43, 3) := by decide +kernel
theorem dX8_days_128 : decode cX8_days 128 = .ok (.invokevirtual 215, 3) := by decide +kernel
theorem dX8_days_131 : decode cX8_days 131 = .ok (.goto 17, 3) := by decide +kernel
theorem dX8_days_134 : decode cX8_days 134 = .ok (.aload_n 0, 1) := by decide +kernel
theorem dX8_days_135 : decode cX8_days 135 = .ok (.getfield 43, 3) := by decide +kernel
theorem dX8_days_138 : decode cX8_days 138 = .ok (.aload_n 0, 1) := by decide +kernel
theorem dX8_days_139 : decode cX8_days 139 = .ok (.getfield 19, 3) := by decide +kernel
theorem dX8_days_142 : decode cX8_days 142 = .ok (.getfield 187, 3) := by decide +kernel
theorem dX8_days_145 : decode cX8_days 145 = .ok (.invokevirtual 268, 3) := by decide +kernel
theorem dX8_days_148 : decode cX8_days 148 = .ok (.ireturn, 1) := by decide +kernel
theorem dX8_mark_0 : decode cX8_mark 0 = .ok (.iload_n 1, 1) := by decide +kernel
theorem dX8_mark_1 : decode cX8_mark 1 = .ok (.ifCond .lt 24, 3) := by decide +kernel
theorem dX8_mark_4 : decode cX8_mark 4 = .ok (.iload_n 1, 1) := by decide +kernel
theorem dX8_mark_5 : decode cX8_mark 5 = .ok (.iconst 4, 1) := by decide +kernel
theorem dX8_mark_6 : decode cX8_mark 6 = .ok (.if_icmp .ge 19, 3) := by decide +kernel
theorem dX8_mark_9 : decode cX8_mark 9 = .ok (.iload_n 2, 1) := by decide +kernel
theorem dX8_mark_10 : decode cX8_mark 10 = .ok (.ifCond .eq 17, 3) := by decide +kernel
theorem dX8_mark_13 : decode cX8_mark 13 = .ok (.aload_n 0, 1) := by decide +kernel
theorem dX8_mark_14 : decode cX8_mark 14 = .ok (.getfield 52, 3) := by decide +kernel
theorem dX8_mark_17 : decode cX8_mark 17 = .ok (.iload_n 1, 1) := by decide +kernel
theorem dX8_mark_18 : decode cX8_mark 18 = .ok (.aaload, 1) := by decide +kernel
theorem dX8_mark_19 : decode cX8_mark 19 = .ok (.getfield 271, 3) := by decide +kernel
theorem dX8_mark_22 : decode cX8_mark 22 = .ok (.ifCond .ne 5, 3) := by decide +kernel
theorem dX8_mark_25 : decode cX8_mark 25 = .ok (.iconst 0, 1) := by decide +kernel
theorem dX8_mark_26 : decode cX8_mark 26 = .ok (.ireturn, 1) := by decide +kernel
theorem dX8_mark_27 : decode cX8_mark 27 = .ok (.iload_n 2, 1) := by decide +kernel
theorem dX8_mark_28 : decode cX8_mark 28 = .ok (.ifCond .eq 16, 3) := by decide +kernel
theorem dX8_mark_31 : decode cX8_mark 31 = .ok (.aload_n 0, 1) := by decide +kernel
theorem dX8_mark_32 : decode cX8_mark 32 = .ok (.aload_n 0, 1) := by decide +kernel
theorem dX8_mark_33 : decode cX8_mark 33 = .ok (.getfield 52, 3) := by decide +kernel
theorem dX8_mark_36 : decode cX8_mark 36 = .ok (.iload_n 1, 1) := by decide +kernel
theorem dX8_mark_37 : decode cX8_mark 37 = .ok (.aaload, 1) := by decide +kernel
theorem dX8_mark_38 : decode cX8_mark 38 = .ok (.invokevirtual 274, 3) := by decide +kernel
theorem dX8_mark_41 : decode cX8_mark 41 = .ok (.goto 13, 3) := by decide +kernel
theorem dX8_mark_44 : decode cX8_mark 44 = .ok (.aload_n 0, 1) := by decide +kernel
theorem dX8_mark_45 : decode cX8_mark 45 = .ok (.aload_n 0, 1) := by decide +kernel
theorem dX8_mark_46 : decode cX8_mark 46 = .ok (.getfield 52, 3) := by decide +kernel
theorem dX8_mark_49 : decode cX8_mark 49 = .ok (.iload_n 1, 1) := by decide +kernel
theorem dX8_mark_50 : decode cX8_mark 50 = .ok (.aaload, 1) := by decide +kernel
theorem dX8_mark_51 : decode cX8_mark 51 = .ok (.invokevirtual 278, 3) := by decide +kernel
theorem dX8_mark_54 : decode cX8_mark 54 = .ok (.iconst 1, 1) := by decide +kernel
theorem dX8_mark_55 : decode cX8_mark 55 = .ok (.ireturn, 1) := by decide +kernel
theorem dX8_count_0 : decode cX8_count 0 = .ok (.iload_n 1, 1) := by decide +kernel
theorem dX8_count_1 : decode cX8_count 1 = .ok (.tableswitch 166 0 11 #[63, 71, 79, 87, 95, 103, 111, 126, 134, 142, 150, 155], 63) := by decide +kernel
theorem dX8_count_64 : decode cX8_count 64 = .ok (.aload_n 0, 1) := by decide +kernel
theorem dX8_count_65 : decode cX8_count 65 = .ok (.getfield 19, 3) := by decide +kernel
theorem dX8_count_68 : decode cX8_count 68 = .ok (.getfield 187, 3) := by decide +kernel
theorem dX8_count_71 : decode cX8_count 71 = .ok (.ireturn, 1) := by decide +kernel
theorem dX8_count_72 : decode cX8_count 72 = .ok (.aload_n 0, 1) := by decide +kernel
theorem dX8_count_73 : decode cX8_count 73 = .ok (.getfield 19, 3) := by decide +kernel
theorem dX8_count_76 : decode cX8_count 76 = .ok (.getfield 153, 3) := by decide +kernel
theorem dX8_count_79 : decode cX8_count 79 = .ok (.ireturn, 1) := by decide +kernel
theorem dX8_count_80 : decode cX8_count 80 = .ok (.aload_n 0, 1) := by decide +kernel
theorem dX8_count_81 : decode cX8_count 81 = .ok (.getfield 39, 3) := by decide +kernel
theorem dX8_count_84 : decode cX8_count 84 = .ok (.getfield 281, 3) := by decide +kernel
theorem dX8_count_87 : decode cX8_count 87 = .ok (.ireturn, 1) := by decide +kernel
theorem dX8_count_88 : decode cX8_count 88 = .ok (.aload_n 0, 1) := by decide +kernel
theorem dX8_count_89 : decode cX8_count 89 = .ok (.getfield 39, 3) := by decide +kernel
theorem dX8_count_92 : decode cX8_count 92 = .ok (.getfield 129, 3) := by decide +kernel
theorem dX8_count_95 : decode cX8_count 95 = .ok (.ireturn, 1) := by decide +kernel
theorem dX8_count_96 : decode cX8_count 96 = .ok (.aload_n 0, 1) := by decide +kernel
theorem dX8_count_97 : decode cX8_count 97 = .ok (.getfield 39, 3) := by decide +kernel
theorem dX8_count_100 : decode cX8_count 100 = .ok (.invokevirtual 215, 3) := by decide +kernel
theorem dX8_count_103 : decode cX8_count 103 = .ok (.ireturn, 1) := by decide +kernel
theorem dX8_count_104 : decode cX8_count 104 = .ok (.aload_n 0, 1) := by decide +kernel
theorem dX8_count_105 : decode cX8_count 105 = .ok (.getfield 39, 3) := by decide +kernel
theorem dX8_count_108 : decode cX8_count 108 = .ok (.getfield 112, 3) := by decide +kernel
theorem dX8_count_111 : decode cX8_count 111 = .ok (.ireturn, 1) := by decide +kernel
theorem dX8_count_112 : decode cX8_count 112 = .ok (.aload_n 0, 1) := by decide +kernel
theorem dX8_count_113 : decode cX8_count 113 = .ok (.getfield 39, 3) := by decide +kernel
theorem dX8_count_116 : decode cX8_count 116 = .ok (.aload_n 0, 1) := by decide +kernel
theorem dX8_count_117 : decode cX8_count 117 = .ok (.getfield 19, 3) := by decide +kernel
theorem dX8_count_120 : decode cX8_count 120 = .ok (.getfield 187, 3) := by decide +kernel
theorem dX8_count_123 : decode cX8_count 123 = .ok (.invokevirtual 268, 3) := by decide +kernel
theorem dX8_count_126 : decode cX8_count 126 = .ok (.ireturn, 1) := by decide +kernel
theorem dX8_count_127 : decode cX8_count 127 = .ok (.aload_n 0, 1) := by decide +kernel
theorem dX8_count_128 : decode cX8_count 128 = .ok (.getfield 39, 3) := by decide +kernel
theorem dX8_count_131 : decode cX8_count 131 = .ok (.getfield 284, 3) := by decide +kernel
theorem dX8_count_134 : decode cX8_count 134 = .ok (.ireturn, 1) := by decide +kernel
theorem dX8_count_135 : decode cX8_count 135 = .ok (.aload_n 0, 1) := by decide +kernel
theorem dX8_count_136 : decode cX8_count 136 = .ok (.getfield 29, 3) := by decide +kernel
theorem dX8_count_139 : decode cX8_count 139 = .ok (.getfield 287, 3) := by decide +kernel
theorem dX8_count_142 : decode cX8_count 142 = .ok (.ireturn, 1) := by decide +kernel
theorem dX8_count_143 : decode cX8_count 143 = .ok (.aload_n 0, 1) := by decide +kernel
theorem dX8_count_144 : decode cX8_count 144 = .ok (.getfield 238, 3) := by decide +kernel
theorem dX8_count_147 : decode cX8_count 147 = .ok (.invokestatic 203, 3) := by decide +kernel
theorem dX8_count_150 : decode cX8_count 150 = .ok (.ireturn, 1) := by decide +kernel
theorem dX8_count_151 : decode cX8_count 151 = .ok (.aload_n 0, 1) := by decide +kernel
theorem dX8_count_152 : decode cX8_count 152 = .ok (.getfield 160, 3) := by decide +kernel
theorem dX8_count_155 : decode cX8_count 155 = .ok (.ireturn, 1) := by decide +kernel
theorem dX8_count_156 : decode cX8_count 156 = .ok (.aload_n 0, 1) := by decide +kernel
theorem dX8_count_157 : decode cX8_count 157 = .ok (.getfield 10, 3) := by decide +kernel
theorem dX8_count_160 : decode cX8_count 160 = .ok (.getfield 71, 3) := by decide +kernel
theorem dX8_count_163 : decode cX8_count 163 = .ok (.getfield 81, 3) := by decide +kernel
theorem dX8_count_166 : decode cX8_count 166 = .ok (.ireturn, 1) := by decide +kernel
theorem dX8_count_167 : decode cX8_count 167 = .ok (.iconst (-1), 1) := by decide +kernel
theorem dX8_count_168 : decode cX8_count 168 = .ok (.ireturn, 1) := by decide +kernel
theorem dX8_isCaller_0 : decode cX8_isCaller 0 = .ok (.iload_n 1, 1) := by decide +kernel
theorem dX8_isCaller_1 : decode cX8_isCaller 1 = .ok (.ifCond .lt 18, 3) := by decide +kernel
theorem dX8_isCaller_4 : decode cX8_isCaller 4 = .ok (.iload_n 1, 1) := by decide +kernel
theorem dX8_isCaller_5 : decode cX8_isCaller 5 = .ok (.aload_n 0, 1) := by decide +kernel
theorem dX8_isCaller_6 : decode cX8_isCaller 6 = .ok (.getfield 19, 3) := by decide +kernel
theorem dX8_isCaller_9 : decode cX8_isCaller 9 = .ok (.getfield 187, 3) := by decide +kernel
theorem dX8_isCaller_12 : decode cX8_isCaller 12 = .ok (.if_icmp .ge 7, 3) := by decide +kernel
theorem dX8_isCaller_15 : decode cX8_isCaller 15 = .ok (.iconst 1, 1) := by decide +kernel
theorem dX8_isCaller_16 : decode cX8_isCaller 16 = .ok (.goto 4, 3) := by decide +kernel
theorem dX8_isCaller_19 : decode cX8_isCaller 19 = .ok (.iconst 0, 1) := by decide +kernel
theorem dX8_isCaller_20 : decode cX8_isCaller 20 = .ok (.ireturn, 1) := by decide +kernel
theorem dX8_isOnLine_0 : decode cX8_isOnLine 0 = .ok (.aload_n 0, 1) := by decide +kernel
theorem dX8_isOnLine_1 : decode cX8_isOnLine 1 = .ok (.iload_n 1, 1) := by decide +kernel
theorem dX8_isOnLine_2 : decode cX8_isOnLine 2 = .ok (.invokevirtual 96, 3) := by decide +kernel
theorem dX8_isOnLine_5 : decode cX8_isOnLine 5 = .ok (.ifCond .eq 19, 3) := by decide +kernel
theorem dX8_isOnLine_8 : decode cX8_isOnLine 8 = .ok (.aload_n 0, 1) := by decide +kernel
theorem dX8_isOnLine_9 : decode cX8_isOnLine 9 = .ok (.getfield 39, 3) := by decide +kernel
theorem dX8_isOnLine_12 : decode cX8_isOnLine 12 = .ok (.iload_n 1, 1) := by decide +kernel
theorem dX8_isOnLine_13 : decode cX8_isOnLine 13 = .ok (.invokevirtual 115, 3) := by decide +kernel
theorem dX8_isOnLine_16 : decode cX8_isOnLine 16 = .ok (.iconst (-1), 1) := by decide +kernel
theorem dX8_isOnLine_17 : decode cX8_isOnLine 17 = .ok (.if_icmp .eq 7, 3) := by decide +kernel
theorem dX8_isOnLine_20 : decode cX8_isOnLine 20 = .ok (.iconst 1, 1) := by decide +kernel
theorem dX8_isOnLine_21 : decode cX8_isOnLine 21 = .ok (.goto 4, 3) := by decide +kernel
theorem dX8_isOnLine_24 : decode cX8_isOnLine 24 = .ok (.iconst 0, 1) := by decide +kernel
theorem dX8_isOnLine_25 : decode cX8_isOnLine 25 = .ok (.ireturn, 1) := by decide +kernel
theorem dX8_areTwo_0 : decode cX8_areTwo 0 = .ok (.aload_n 0, 1) := by decide +kernel
theorem dX8_areTwo_1 : decode cX8_areTwo 1 = .ok (.iload_n 1, 1) := by decide +kernel
theorem dX8_areTwo_2 : decode cX8_areTwo 2 = .ok (.invokevirtual 96, 3) := by decide +kernel
theorem dX8_areTwo_5 : decode cX8_areTwo 5 = .ok (.ifCond .eq 20, 3) := by decide +kernel
theorem dX8_areTwo_8 : decode cX8_areTwo 8 = .ok (.aload_n 0, 1) := by decide +kernel
theorem dX8_areTwo_9 : decode cX8_areTwo 9 = .ok (.iload_n 2, 1) := by decide +kernel
theorem dX8_areTwo_10 : decode cX8_areTwo 10 = .ok (.invokevirtual 96, 3) := by decide +kernel
theorem dX8_areTwo_13 : decode cX8_areTwo 13 = .ok (.ifCond .eq 12, 3) := by decide +kernel
theorem dX8_areTwo_16 : decode cX8_areTwo 16 = .ok (.iload_n 1, 1) := by decide +kernel
theorem dX8_areTwo_17 : decode cX8_areTwo 17 = .ok (.iload_n 2, 1) := by decide +kernel
theorem dX8_areTwo_18 : decode cX8_areTwo 18 = .ok (.if_icmp .eq 7, 3) := by decide +kernel
theorem dX8_areTwo_21 : decode cX8_areTwo 21 = .ok (.iconst 1, 1) := by decide +kernel
theorem dX8_areTwo_22 : decode cX8_areTwo 22 = .ok (.goto 4, 3) := by decide +kernel
theorem dX8_areTwo_25 : decode cX8_areTwo 25 = .ok (.iconst 0, 1) := by decide +kernel
theorem dX8_areTwo_26 : decode cX8_areTwo 26 = .ok (.ireturn, 1) := by decide +kernel
theorem dX8_isAnswer_0 : decode cX8_isAnswer 0 = .ok (.iload_n 0, 1) := by decide +kernel
theorem dX8_isAnswer_1 : decode cX8_isAnswer 1 = .ok (.ifCond .lt 13, 3) := by decide +kernel
theorem dX8_isAnswer_4 : decode cX8_isAnswer 4 = .ok (.iload_n 0, 1) := by decide +kernel
theorem dX8_isAnswer_5 : decode cX8_isAnswer 5 = .ok (.bipush 9, 2) := by decide +kernel
theorem dX8_isAnswer_7 : decode cX8_isAnswer 7 = .ok (.if_icmp .gt 7, 3) := by decide +kernel
theorem dX8_isAnswer_10 : decode cX8_isAnswer 10 = .ok (.iconst 1, 1) := by decide +kernel
theorem dX8_isAnswer_11 : decode cX8_isAnswer 11 = .ok (.goto 4, 3) := by decide +kernel
theorem dX8_isAnswer_14 : decode cX8_isAnswer 14 = .ok (.iconst 0, 1) := by decide +kernel
theorem dX8_isAnswer_15 : decode cX8_isAnswer 15 = .ok (.ireturn, 1) := by decide +kernel
theorem dX8_isGain_0 : decode cX8_isGain 0 = .ok (.iload_n 0, 1) := by decide +kernel
theorem dX8_isGain_1 : decode cX8_isGain 1 = .ok (.ifCond .lt 13, 3) := by decide +kernel
theorem dX8_isGain_4 : decode cX8_isGain 4 = .ok (.iload_n 0, 1) := by decide +kernel
theorem dX8_isGain_5 : decode cX8_isGain 5 = .ok (.bipush 9, 2) := by decide +kernel
theorem dX8_isGain_7 : decode cX8_isGain 7 = .ok (.if_icmp .gt 7, 3) := by decide +kernel
theorem dX8_isGain_10 : decode cX8_isGain 10 = .ok (.iconst 1, 1) := by decide +kernel
theorem dX8_isGain_11 : decode cX8_isGain 11 = .ok (.goto 4, 3) := by decide +kernel
theorem dX8_isGain_14 : decode cX8_isGain 14 = .ok (.iconst 0, 1) := by decide +kernel
theorem dX8_isGain_15 : decode cX8_isGain 15 = .ok (.ireturn, 1) := by decide +kernel
theorem dX8_openDraft_0 : decode cX8_openDraft 0 = .ok (.aload_n 0, 1) := by decide +kernel
theorem dX8_openDraft_1 : decode cX8_openDraft 1 = .ok (.getfield 19, 3) := by decide +kernel
theorem dX8_openDraft_4 : decode cX8_openDraft 4 = .ok (.astore_n 1, 1) := by decide +kernel
theorem dX8_openDraft_5 : decode cX8_openDraft 5 = .ok (.aload_n 0, 1) := by decide +kernel
theorem dX8_openDraft_6 : decode cX8_openDraft 6 = .ok (.aload_n 0, 1) := by decide +kernel
theorem dX8_openDraft_7 : decode cX8_openDraft 7 = .ok (.getfield 23, 3) := by decide +kernel
theorem dX8_openDraft_10 : decode cX8_openDraft 10 = .ok (.putfield 19, 3) := by decide +kernel
theorem dX8_openDraft_13 : decode cX8_openDraft 13 = .ok (.aload_n 0, 1) := by decide +kernel
theorem dX8_openDraft_14 : decode cX8_openDraft 14 = .ok (.aload_n 1, 1) := by decide +kernel
theorem dX8_openDraft_15 : decode cX8_openDraft 15 = .ok (.putfield 23, 3) := by decide +kernel
theorem dX8_openDraft_18 : decode cX8_openDraft 18 = .ok (.aload_n 0, 1) := by decide +kernel
theorem dX8_openDraft_19 : decode cX8_openDraft 19 = .ok (.getfield 39, 3) := by decide +kernel
theorem dX8_openDraft_22 : decode cX8_openDraft 22 = .ok (.aload_n 0, 1) := by decide +kernel
theorem dX8_openDraft_23 : decode cX8_openDraft 23 = .ok (.getfield 19, 3) := by decide +kernel
theorem dX8_openDraft_26 : decode cX8_openDraft 26 = .ok (.invokevirtual 290, 3) := by decide +kernel
theorem dX8_openDraft_29 : decode cX8_openDraft 29 = .ok (.aload_n 0, 1) := by decide +kernel
theorem dX8_openDraft_30 : decode cX8_openDraft 30 = .ok (.getfield 29, 3) := by decide +kernel
theorem dX8_openDraft_33 : decode cX8_openDraft 33 = .ok (.iconst 0, 1) := by decide +kernel
theorem dX8_openDraft_34 : decode cX8_openDraft 34 = .ok (.putfield 287, 3) := by decide +kernel
theorem dX8_openDraft_37 : decode cX8_openDraft 37 = .ok (.aload_n 0, 1) := by decide +kernel
theorem dX8_openDraft_38 : decode cX8_openDraft 38 = .ok (.iconst 0, 1) := by decide +kernel
theorem dX8_openDraft_39 : decode cX8_openDraft 39 = .ok (.putfield 238, 3) := by decide +kernel
theorem dX8_openDraft_42 : decode cX8_openDraft 42 = .ok (.aload_n 0, 1) := by decide +kernel
theorem dX8_openDraft_43 : decode cX8_openDraft 43 = .ok (.iconst 0, 1) := by decide +kernel
theorem dX8_openDraft_44 : decode cX8_openDraft 44 = .ok (.putfield 241, 3) := by decide +kernel
theorem dX8_openDraft_47 : decode cX8_openDraft 47 = .ok (.aload_n 0, 1) := by decide +kernel
theorem dX8_openDraft_48 : decode cX8_openDraft 48 = .ok (.iconst 0, 1) := by decide +kernel
theorem dX8_openDraft_49 : decode cX8_openDraft 49 = .ok (.putfield 160, 3) := by decide +kernel
theorem dX8_openDraft_52 : decode cX8_openDraft 52 = .ok (.aload_n 0, 1) := by decide +kernel
theorem dX8_openDraft_53 : decode cX8_openDraft 53 = .ok (.getfield 59, 3) := by decide +kernel
theorem dX8_openDraft_56 : decode cX8_openDraft 56 = .ok (.iconst 0, 1) := by decide +kernel
theorem dX8_openDraft_57 : decode cX8_openDraft 57 = .ok (.putfield 170, 3) := by decide +kernel
theorem dX8_openDraft_60 : decode cX8_openDraft 60 = .ok (.iconst 0, 1) := by decide +kernel
theorem dX8_openDraft_61 : decode cX8_openDraft 61 = .ok (.istore_n 2, 1) := by decide +kernel
theorem dX8_openDraft_62 : decode cX8_openDraft 62 = .ok (.iload_n 2, 1) := by decide +kernel
theorem dX8_openDraft_63 : decode cX8_openDraft 63 = .ok (.aload_n 0, 1) := by decide +kernel
theorem dX8_openDraft_64 : decode cX8_openDraft 64 = .ok (.getfield 52, 3) := by decide +kernel
theorem dX8_openDraft_67 : decode cX8_openDraft 67 = .ok (.arraylength, 1) := by decide +kernel
theorem dX8_openDraft_68 : decode cX8_openDraft 68 = .ok (.if_icmp .ge 19, 3) := by decide +kernel
theorem dX8_openDraft_71 : decode cX8_openDraft 71 = .ok (.aload_n 0, 1) := by decide +kernel
theorem dX8_openDraft_72 : decode cX8_openDraft 72 = .ok (.getfield 52, 3) := by decide +kernel
theorem dX8_openDraft_75 : decode cX8_openDraft 75 = .ok (.iload_n 2, 1) := by decide +kernel
theorem dX8_openDraft_76 : decode cX8_openDraft 76 = .ok (.aaload, 1) := by decide +kernel
theorem dX8_openDraft_77 : decode cX8_openDraft 77 = .ok (.iconst 0, 1) := by decide +kernel
theorem dX8_openDraft_78 : decode cX8_openDraft 78 = .ok (.putfield 271, 3) := by decide +kernel
theorem dX8_openDraft_81 : decode cX8_openDraft 81 = .ok (.iinc 2 1, 3) := by decide +kernel
theorem dX8_openDraft_84 : decode cX8_openDraft 84 = .ok (.goto (-22), 3) := by decide +kernel
theorem dX8_openDraft_87 : decode cX8_openDraft 87 = .ok (.return_, 1) := by decide +kernel
theorem dX8_keepPast_0 : decode cX8_keepPast 0 = .ok (.aload_n 0, 1) := by decide +kernel
theorem dX8_keepPast_1 : decode cX8_keepPast 1 = .ok (.getfield 46, 3) := by decide +kernel
theorem dX8_keepPast_4 : decode cX8_keepPast 4 = .ok (.aload_n 0, 1) := by decide +kernel
theorem dX8_keepPast_5 : decode cX8_keepPast 5 = .ok (.getfield 163, 3) := by decide +kernel
theorem dX8_keepPast_8 : decode cX8_keepPast 8 = .ok (.aaload, 1) := by decide +kernel
theorem dX8_keepPast_9 : decode cX8_keepPast 9 = .ok (.aload_n 0, 1) := by decide +kernel
theorem dX8_keepPast_10 : decode cX8_keepPast 10 = .ok (.getfield 39, 3) := by decide +kernel
theorem dX8_keepPast_13 : decode cX8_keepPast 13 = .ok (.invokevirtual 166, 3) := by decide +kernel
theorem dX8_keepPast_16 : decode cX8_keepPast 16 = .ok (.aload_n 0, 1) := by decide +kernel
theorem dX8_keepPast_17 : decode cX8_keepPast 17 = .ok (.aload_n 0, 1) := by decide +kernel
theorem dX8_keepPast_18 : decode cX8_keepPast 18 = .ok (.getfield 163, 3) := by decide +kernel
theorem dX8_keepPast_21 : decode cX8_keepPast 21 = .ok (.iconst 1, 1) := by decide +kernel
theorem dX8_keepPast_22 : decode cX8_keepPast 22 = .ok (.iadd, 1) := by decide +kernel
theorem dX8_keepPast_23 : decode cX8_keepPast 23 = .ok (.bipush 16, 2) := by decide +kernel
theorem dX8_keepPast_25 : decode cX8_keepPast 25 = .ok (.irem, 1) := by decide +kernel
theorem dX8_keepPast_26 : decode cX8_keepPast 26 = .ok (.putfield 163, 3) := by decide +kernel
theorem dX8_keepPast_29 : decode cX8_keepPast 29 = .ok (.aload_n 0, 1) := by decide +kernel
theorem dX8_keepPast_30 : decode cX8_keepPast 30 = .ok (.aload_n 0, 1) := by decide +kernel
theorem dX8_keepPast_31 : decode cX8_keepPast 31 = .ok (.getfield 160, 3) := by decide +kernel
theorem dX8_keepPast_34 : decode cX8_keepPast 34 = .ok (.iconst 1, 1) := by decide +kernel
theorem dX8_keepPast_35 : decode cX8_keepPast 35 = .ok (.iadd, 1) := by decide +kernel
theorem dX8_keepPast_36 : decode cX8_keepPast 36 = .ok (.bipush 16, 2) := by decide +kernel
theorem dX8_keepPast_38 : decode cX8_keepPast 38 = .ok (.invokestatic 293, 3) := by decide +kernel
theorem dX8_keepPast_41 : decode cX8_keepPast 41 = .ok (.putfield 160, 3) := by decide +kernel
theorem dX8_keepPast_44 : decode cX8_keepPast 44 = .ok (.aload_n 0, 1) := by decide +kernel
theorem dX8_keepPast_45 : decode cX8_keepPast 45 = .ok (.getfield 59, 3) := by decide +kernel
theorem dX8_keepPast_48 : decode cX8_keepPast 48 = .ok (.iconst 0, 1) := by decide +kernel
theorem dX8_keepPast_49 : decode cX8_keepPast 49 = .ok (.putfield 170, 3) := by decide +kernel
theorem dX8_keepPast_52 : decode cX8_keepPast 52 = .ok (.return_, 1) := by decide +kernel
theorem dX8_layOn_0 : decode cX8_layOn 0 = .ok (.aload_n 1, 1) := by decide +kernel
theorem dX8_layOn_1 : decode cX8_layOn 1 = .ok (.iconst 1, 1) := by decide +kernel
theorem dX8_layOn_2 : decode cX8_layOn 2 = .ok (.putfield 271, 3) := by decide +kernel
theorem dX8_layOn_5 : decode cX8_layOn 5 = .ok (.aload_n 1, 1) := by decide +kernel
theorem dX8_layOn_6 : decode cX8_layOn 6 = .ok (.getfield 298, 3) := by decide +kernel
theorem dX8_layOn_9 : decode cX8_layOn 9 = .ok (.aload_n 0, 1) := by decide +kernel
theorem dX8_layOn_10 : decode cX8_layOn 10 = .ok (.getfield 39, 3) := by decide +kernel
theorem dX8_layOn_13 : decode cX8_layOn 13 = .ok (.invokevirtual 166, 3) := by decide +kernel
theorem dX8_layOn_16 : decode cX8_layOn 16 = .ok (.aload_n 1, 1) := by decide +kernel
theorem dX8_layOn_17 : decode cX8_layOn 17 = .ok (.getfield 301, 3) := by decide +kernel
theorem dX8_layOn_20 : decode cX8_layOn 20 = .ok (.aload_n 0, 1) := by decide +kernel
theorem dX8_layOn_21 : decode cX8_layOn 21 = .ok (.getfield 29, 3) := by decide +kernel
theorem dX8_layOn_24 : decode cX8_layOn 24 = .ok (.invokevirtual 302, 3) := by decide +kernel
theorem dX8_layOn_27 : decode cX8_layOn 27 = .ok (.aload_n 1, 1) := by decide +kernel
theorem dX8_layOn_28 : decode cX8_layOn 28 = .ok (.aload_n 0, 1) := by decide +kernel
theorem dX8_layOn_29 : decode cX8_layOn 29 = .ok (.getfield 238, 3) := by decide +kernel
theorem dX8_layOn_32 : decode cX8_layOn 32 = .ok (.putfield 305, 3) := by decide +kernel
theorem dX8_layOn_35 : decode cX8_layOn 35 = .ok (.aload_n 1, 1) := by decide +kernel
theorem dX8_layOn_36 : decode cX8_layOn 36 = .ok (.aload_n 0, 1) := by decide +kernel
theorem dX8_layOn_37 : decode cX8_layOn 37 = .ok (.getfield 241, 3) := by decide +kernel
theorem dX8_layOn_40 : decode cX8_layOn 40 = .ok (.putfield 306, 3) := by decide +kernel
theorem dX8_layOn_43 : decode cX8_layOn 43 = .ok (.return_, 1) := by decide +kernel
theorem dX8_goBackTo_0 : decode cX8_goBackTo 0 = .ok (.aload_n 0, 1) := by decide +kernel
theorem dX8_goBackTo_1 : decode cX8_goBackTo 1 = .ok (.getfield 39, 3) := by decide +kernel
theorem dX8_goBackTo_4 : decode cX8_goBackTo 4 = .ok (.aload_n 1, 1) := by decide +kernel
theorem dX8_goBackTo_5 : decode cX8_goBackTo 5 = .ok (.getfield 298, 3) := by decide +kernel
theorem dX8_goBackTo_8 : decode cX8_goBackTo 8 = .ok (.invokevirtual 166, 3) := by decide +kernel
theorem dX8_goBackTo_11 : decode cX8_goBackTo 11 = .ok (.aload_n 0, 1) := by decide +kernel
theorem dX8_goBackTo_12 : decode cX8_goBackTo 12 = .ok (.getfield 29, 3) := by decide +kernel
theorem dX8_goBackTo_15 : decode cX8_goBackTo 15 = .ok (.aload_n 1, 1) := by decide +kernel
theorem dX8_goBackTo_16 : decode cX8_goBackTo 16 = .ok (.getfield 301, 3) := by decide +kernel
theorem dX8_goBackTo_19 : decode cX8_goBackTo 19 = .ok (.invokevirtual 302, 3) := by decide +kernel
theorem dX8_goBackTo_22 : decode cX8_goBackTo 22 = .ok (.aload_n 0, 1) := by decide +kernel
theorem dX8_goBackTo_23 : decode cX8_goBackTo 23 = .ok (.aload_n 1, 1) := by decide +kernel
theorem dX8_goBackTo_24 : decode cX8_goBackTo 24 = .ok (.getfield 305, 3) := by decide +kernel
theorem dX8_goBackTo_27 : decode cX8_goBackTo 27 = .ok (.putfield 238, 3) := by decide +kernel
theorem dX8_goBackTo_30 : decode cX8_goBackTo 30 = .ok (.aload_n 0, 1) := by decide +kernel
theorem dX8_goBackTo_31 : decode cX8_goBackTo 31 = .ok (.aload_n 1, 1) := by decide +kernel
theorem dX8_goBackTo_32 : decode cX8_goBackTo 32 = .ok (.getfield 306, 3) := by decide +kernel
theorem dX8_goBackTo_35 : decode cX8_goBackTo 35 = .ok (.putfield 241, 3) := by decide +kernel
theorem dX8_goBackTo_38 : decode cX8_goBackTo 38 = .ok (.aload_n 0, 1) := by decide +kernel
theorem dX8_goBackTo_39 : decode cX8_goBackTo 39 = .ok (.iconst 0, 1) := by decide +kernel
theorem dX8_goBackTo_40 : decode cX8_goBackTo 40 = .ok (.putfield 160, 3) := by decide +kernel
theorem dX8_goBackTo_43 : decode cX8_goBackTo 43 = .ok (.aload_n 0, 1) := by decide +kernel
theorem dX8_goBackTo_44 : decode cX8_goBackTo 44 = .ok (.getfield 59, 3) := by decide +kernel
theorem dX8_goBackTo_47 : decode cX8_goBackTo 47 = .ok (.iconst 0, 1) := by decide +kernel
theorem dX8_goBackTo_48 : decode cX8_goBackTo 48 = .ok (.putfield 170, 3) := by decide +kernel
theorem dX8_goBackTo_51 : decode cX8_goBackTo 51 = .ok (.return_, 1) := by decide +kernel
theorem dX8_judgeDay_0 : decode cX8_judgeDay 0 = .ok (.iconst (-1), 1) := by decide +kernel
theorem dX8_judgeDay_1 : decode cX8_judgeDay 1 = .ok (.istore_n 3, 1) := by decide +kernel
theorem dX8_judgeDay_2 : decode cX8_judgeDay 2 = .ok (.iconst (-1), 1) := by decide +kernel
theorem dX8_judgeDay_3 : decode cX8_judgeDay 3 = .ok (.istore 4, 2) := by decide +kernel
theorem dX8_judgeDay_5 : decode cX8_judgeDay 5 = .ok (.aload_n 0, 1) := by decide +kernel
theorem dX8_judgeDay_6 : decode cX8_judgeDay 6 = .ok (.getfield 43, 3) := by decide +kernel
theorem dX8_judgeDay_9 : decode cX8_judgeDay 9 = .ok (.aload_n 0, 1) := by decide +kernel
theorem dX8_judgeDay_10 : decode cX8_judgeDay 10 = .ok (.getfield 19, 3) := by decide +kernel
theorem dX8_judgeDay_13 : decode cX8_judgeDay 13 = .ok (.invokevirtual 290, 3) := by decide +kernel
theorem dX8_judgeDay_16 : decode cX8_judgeDay 16 = .ok (.iconst 0, 1) := by decide +kernel
theorem dX8_judgeDay_17 : decode cX8_judgeDay 17 = .ok (.istore 5, 2) := by decide +kernel
theorem dX8_judgeDay_19 : decode cX8_judgeDay 19 = .ok (.iload 5, 2) := by decide +kernel
theorem dX8_judgeDay_21 : decode cX8_judgeDay 21 = .ok (.aload_n 0, 1) := by decide +kernel
theorem dX8_judgeDay_22 : decode cX8_judgeDay 22 = .ok (.getfield 29, 3) := by decide +kernel
theorem dX8_judgeDay_25 : decode cX8_judgeDay 25 = .ok (.getfield 287, 3) := by decide +kernel
theorem dX8_judgeDay_28 : decode cX8_judgeDay 28 = .ok (.if_icmp .ge 58, 3) := by decide +kernel
theorem dX8_judgeDay_31 : decode cX8_judgeDay 31 = .ok (.aload_n 0, 1) := by decide +kernel
theorem dX8_judgeDay_32 : decode cX8_judgeDay 32 = .ok (.getfield 43, 3) := by decide +kernel
theorem dX8_judgeDay_35 : decode cX8_judgeDay 35 = .ok (.getfield 112, 3) := by decide +kernel
theorem dX8_judgeDay_38 : decode cX8_judgeDay 38 = .ok (.istore 6, 2) := by decide +kernel
theorem dX8_judgeDay_40 : decode cX8_judgeDay 40 = .ok (.aload_n 0, 1) := by decide +kernel
theorem dX8_judgeDay_41 : decode cX8_judgeDay 41 = .ok (.iload 5, 2) := by decide +kernel
theorem dX8_judgeDay_43 : decode cX8_judgeDay 43 = .ok (.iload_n 1, 1) := by decide +kernel
theorem dX8_judgeDay_44 : decode cX8_judgeDay 44 = .ok (.invokevirtual 307, 3) := by decide +kernel
theorem dX8_judgeDay_47 : decode cX8_judgeDay 47 = .ok (.ifCond .ne 11, 3) := by decide +kernel
theorem dX8_judgeDay_50 : decode cX8_judgeDay 50 = .ok (.iload_n 3, 1) := by decide +kernel
theorem dX8_judgeDay_51 : decode cX8_judgeDay 51 = .ok (.iconst (-1), 1) := by decide +kernel
theorem dX8_judgeDay_52 : decode cX8_judgeDay 52 = .ok (.if_icmp .ne 6, 3) := by decide +kernel
theorem dX8_judgeDay_55 : decode cX8_judgeDay 55 = .ok (.iload 5, 2) := by decide +kernel
theorem dX8_judgeDay_57 : decode cX8_judgeDay 57 = .ok (.istore_n 3, 1) := by decide +kernel
theorem dX8_judgeDay_58 : decode cX8_judgeDay 58 = .ok (.aload_n 0, 1) := by decide +kernel
theorem dX8_judgeDay_59 : decode cX8_judgeDay 59 = .ok (.getfield 43, 3) := by decide +kernel
theorem dX8_judgeDay_62 : decode cX8_judgeDay 62 = .ok (.getfield 112, 3) := by decide +kernel
theorem dX8_judgeDay_65 : decode cX8_judgeDay 65 = .ok (.iload 6, 2) := by decide +kernel
theorem dX8_judgeDay_67 : decode cX8_judgeDay 67 = .ok (.if_icmp .eq 13, 3) := by decide +kernel
theorem dX8_judgeDay_70 : decode cX8_judgeDay 70 = .ok (.iload 4, 2) := by decide +kernel
theorem dX8_judgeDay_72 : decode cX8_judgeDay 72 = .ok (.iconst (-1), 1) := by decide +kernel
theorem dX8_judgeDay_73 : decode cX8_judgeDay 73 = .ok (.if_icmp .ne 7, 3) := by decide +kernel
theorem dX8_judgeDay_76 : decode cX8_judgeDay 76 = .ok (.iload 5, 2) := by decide +kernel
theorem dX8_judgeDay_78 : decode cX8_judgeDay 78 = .ok (.istore 4, 2) := by decide +kernel
theorem dX8_judgeDay_80 : decode cX8_judgeDay 80 = .ok (.iinc 5 1, 3) := by decide +kernel
theorem dX8_judgeDay_83 : decode cX8_judgeDay 83 = .ok (.goto (-64), 3) := by decide +kernel
theorem dX8_judgeDay_86 : decode cX8_judgeDay 86 = .ok (.iload_n 2, 1) := by decide +kernel
theorem dX8_judgeDay_87 : decode cX8_judgeDay 87 = .ok (.iconst 2, 1) := by decide +kernel
theorem dX8_judgeDay_88 : decode cX8_judgeDay 88 = .ok (.if_icmp .ne 14, 3) := by decide +kernel
theorem dX8_judgeDay_91 : decode cX8_judgeDay 91 = .ok (.aload_n 0, 1) := by decide +kernel
theorem dX8_judgeDay_92 : decode cX8_judgeDay 92 = .ok (.getfield 43, 3) := by decide +kernel
theorem dX8_judgeDay_95 : decode cX8_judgeDay 95 = .ok (.getfield 112, 3) := by decide +kernel
theorem dX8_judgeDay_98 : decode cX8_judgeDay 98 = .ok (.invokestatic 203, 3) := by decide +kernel
theorem dX8_judgeDay_101 : decode cX8_judgeDay 101 = .ok (.ireturn, 1) := by decide +kernel
theorem dX8_judgeDay_102 : decode cX8_judgeDay 102 = .ok (.iload_n 2, 1) := by decide +kernel
theorem dX8_judgeDay_103 : decode cX8_judgeDay 103 = .ok (.ifCond .ne 7, 3) := by decide +kernel
theorem dX8_judgeDay_106 : decode cX8_judgeDay 106 = .ok (.iload_n 3, 1) := by decide +kernel
theorem dX8_judgeDay_107 : decode cX8_judgeDay 107 = .ok (.goto 5, 3) := by decide +kernel
theorem dX8_judgeDay_110 : decode cX8_judgeDay 110 = .ok (.iload 4, 2) := by decide +kernel
theorem dX8_judgeDay_112 : decode cX8_judgeDay 112 = .ok (.ireturn, 1) := by decide +kernel
theorem dX8_doLine_0 : decode cX8_doLine 0 = .ok (.aload_n 0, 1) := by decide +kernel
theorem dX8_doLine_1 : decode cX8_doLine 1 = .ok (.getfield 29, 3) := by decide +kernel
theorem dX8_doLine_4 : decode cX8_doLine 4 = .ok (.getfield 310, 3) := by decide +kernel
theorem dX8_doLine_7 : decode cX8_doLine 7 = .ok (.iload_n 1, 1) := by decide +kernel
theorem dX8_doLine_8 : decode cX8_doLine 8 = .ok (.iaload, 1) := by decide +kernel
theorem dX8_doLine_9 : decode cX8_doLine 9 = .ok (.istore_n 3, 1) := by decide +kernel
theorem dX8_doLine_10 : decode cX8_doLine 10 = .ok (.aload_n 0, 1) := by decide +kernel
theorem dX8_doLine_11 : decode cX8_doLine 11 = .ok (.getfield 29, 3) := by decide +kernel
theorem dX8_doLine_14 : decode cX8_doLine 14 = .ok (.getfield 313, 3) := by decide +kernel
theorem dX8_doLine_17 : decode cX8_doLine 17 = .ok (.iload_n 1, 1) := by decide +kernel
theorem dX8_doLine_18 : decode cX8_doLine 18 = .ok (.iaload, 1) := by decide +kernel
theorem dX8_doLine_19 : decode cX8_doLine 19 = .ok (.istore 4, 2) := by decide +kernel
theorem dX8_doLine_21 : decode cX8_doLine 21 = .ok (.iconst 1, 1) := by decide +kernel
theorem dX8_doLine_22 : decode cX8_doLine 22 = .ok (.istore 5, 2) := by decide +kernel
theorem dX8_doLine_24 : decode cX8_doLine 24 = .ok (.aload_n 0, 1) := by decide +kernel
theorem dX8_doLine_25 : decode cX8_doLine 25 = .ok (.getfield 29, 3) := by decide +kernel
theorem dX8_doLine_28 : decode cX8_doLine 28 = .ok (.getfield 316, 3) := by decide +kernel
theorem dX8_doLine_31 : decode cX8_doLine 31 = .ok (.iload_n 1, 1) := by decide +kernel
theorem dX8_doLine_32 : decode cX8_doLine 32 = .ok (.iaload, 1) := by decide +kernel
theorem dX8_doLine_33 : decode cX8_doLine 33 = .ok (.tableswitch 128 0 2 #[27, 53, 83], 27) := by decide +kernel
theorem dX8_doLine_60 : decode cX8_doLine 60 = .ok (.aload_n 0, 1) := by decide +kernel
theorem dX8_doLine_61 : decode cX8_doLine 61 = .ok (.getfield 43, 3) := by decide +kernel
theorem dX8_doLine_64 : decode cX8_doLine 64 = .ok (.iload_n 3, 1) := by decide +kernel
theorem dX8_doLine_65 : decode cX8_doLine 65 = .ok (.invokevirtual 133, 3) := by decide +kernel
theorem dX8_doLine_68 : decode cX8_doLine 68 = .ok (.istore 5, 2) := by decide +kernel
theorem dX8_doLine_70 : decode cX8_doLine 70 = .ok (.iload 5, 2) := by decide +kernel
theorem dX8_doLine_72 : decode cX8_doLine 72 = .ok (.ifCond .eq 102, 3) := by decide +kernel
theorem dX8_doLine_75 : decode cX8_doLine 75 = .ok (.aload_n 0, 1) := by decide +kernel
theorem dX8_doLine_76 : decode cX8_doLine 76 = .ok (.getfield 43, 3) := by decide +kernel
theorem dX8_doLine_79 : decode cX8_doLine 79 = .ok (.iload_n 3, 1) := by decide +kernel
theorem dX8_doLine_80 : decode cX8_doLine 80 = .ok (.invokevirtual 139, 3) := by decide +kernel
theorem dX8_doLine_83 : decode cX8_doLine 83 = .ok (.goto 91, 3) := by decide +kernel
theorem dX8_doLine_86 : decode cX8_doLine 86 = .ok (.aload_n 0, 1) := by decide +kernel
theorem dX8_doLine_87 : decode cX8_doLine 87 = .ok (.getfield 43, 3) := by decide +kernel
theorem dX8_doLine_90 : decode cX8_doLine 90 = .ok (.iload_n 3, 1) := by decide +kernel
theorem dX8_doLine_91 : decode cX8_doLine 91 = .ok (.invokevirtual 115, 3) := by decide +kernel
theorem dX8_doLine_94 : decode cX8_doLine 94 = .ok (.iconst (-1), 1) := by decide +kernel
theorem dX8_doLine_95 : decode cX8_doLine 95 = .ok (.if_icmp .eq 7, 3) := by decide +kernel
theorem dX8_doLine_98 : decode cX8_doLine 98 = .ok (.iconst 1, 1) := by decide +kernel
theorem dX8_doLine_99 : decode cX8_doLine 99 = .ok (.goto 4, 3) := by decide +kernel
theorem dX8_doLine_102 : decode cX8_doLine 102 = .ok (.iconst 0, 1) := by decide +kernel
theorem dX8_doLine_103 : decode cX8_doLine 103 = .ok (.istore 5, 2) := by decide +kernel
theorem dX8_doLine_105 : decode cX8_doLine 105 = .ok (.aload_n 0, 1) := by decide +kernel
theorem dX8_doLine_106 : decode cX8_doLine 106 = .ok (.getfield 43, 3) := by decide +kernel
theorem dX8_doLine_109 : decode cX8_doLine 109 = .ok (.iload_n 3, 1) := by decide +kernel
theorem dX8_doLine_110 : decode cX8_doLine 110 = .ok (.invokevirtual 146, 3) := by decide +kernel
theorem dX8_doLine_113 : decode cX8_doLine 113 = .ok (.goto 61, 3) := by decide +kernel
theorem dX8_doLine_116 : decode cX8_doLine 116 = .ok (.aload_n 0, 1) := by decide +kernel
theorem dX8_doLine_117 : decode cX8_doLine 117 = .ok (.getfield 43, 3) := by decide +kernel
theorem dX8_doLine_120 : decode cX8_doLine 120 = .ok (.iload_n 3, 1) := by decide +kernel
theorem dX8_doLine_121 : decode cX8_doLine 121 = .ok (.invokevirtual 115, 3) := by decide +kernel
theorem dX8_doLine_124 : decode cX8_doLine 124 = .ok (.iconst (-1), 1) := by decide +kernel
theorem dX8_doLine_125 : decode cX8_doLine 125 = .ok (.if_icmp .eq 20, 3) := by decide +kernel
theorem dX8_doLine_128 : decode cX8_doLine 128 = .ok (.aload_n 0, 1) := by decide +kernel
theorem dX8_doLine_129 : decode cX8_doLine 129 = .ok (.getfield 43, 3) := by decide +kernel
theorem dX8_doLine_132 : decode cX8_doLine 132 = .ok (.iload 4, 2) := by decide +kernel
theorem dX8_doLine_134 : decode cX8_doLine 134 = .ok (.invokevirtual 115, 3) := by decide +kernel
theorem dX8_doLine_137 : decode cX8_doLine 137 = .ok (.iconst (-1), 1) := by decide +kernel
theorem dX8_doLine_138 : decode cX8_doLine 138 = .ok (.if_icmp .eq 7, 3) := by decide +kernel
theorem dX8_doLine_141 : decode cX8_doLine 141 = .ok (.iconst 1, 1) := by decide +kernel
theorem dX8_doLine_142 : decode cX8_doLine 142 = .ok (.goto 4, 3) := by decide +kernel
theorem dX8_doLine_145 : decode cX8_doLine 145 = .ok (.iconst 0, 1) := by decide +kernel
theorem dX8_doLine_146 : decode cX8_doLine 146 = .ok (.istore 5, 2) := by decide +kernel
theorem dX8_doLine_148 : decode cX8_doLine 148 = .ok (.aload_n 0, 1) := by decide +kernel
theorem dX8_doLine_149 : decode cX8_doLine 149 = .ok (.getfield 43, 3) := by decide +kernel
theorem dX8_doLine_152 : decode cX8_doLine 152 = .ok (.iload_n 3, 1) := by decide +kernel
theorem dX8_doLine_153 : decode cX8_doLine 153 = .ok (.iload 4, 2) := by decide +kernel
theorem dX8_doLine_155 : decode cX8_doLine 155 = .ok (.invokevirtual 149, 3) := by decide +kernel
theorem dX8_doLine_158 : decode cX8_doLine 158 = .ok (.goto 16, 3) := by decide +kernel
theorem dX8_doLine_161 : decode cX8_doLine 161 = .ok (.aload_n 0, 1) := by decide +kernel
theorem dX8_doLine_162 : decode cX8_doLine 162 = .ok (.getfield 43, 3) := by decide +kernel
theorem dX8_doLine_165 : decode cX8_doLine 165 = .ok (.aload_n 0, 1) := by decide +kernel
theorem dX8_doLine_166 : decode cX8_doLine 166 = .ok (.getfield 19, 3) := by decide +kernel
theorem dX8_doLine_169 : decode cX8_doLine 169 = .ok (.iload_n 2, 1) := by decide +kernel
theorem dX8_doLine_170 : decode cX8_doLine 170 = .ok (.invokevirtual 156, 3) := by decide +kernel
theorem dX8_doLine_173 : decode cX8_doLine 173 = .ok (.pop, 1) := by decide +kernel
theorem dX8_doLine_174 : decode cX8_doLine 174 = .ok (.iload 5, 2) := by decide +kernel
theorem dX8_doLine_176 : decode cX8_doLine 176 = .ok (.ireturn, 1) := by decide +kernel
theorem dX8_freeCallers_0 : decode cX8_freeCallers 0 = .ok (.iconst 1, 1) := by decide +kernel
theorem dX8_freeCallers_1 : decode cX8_freeCallers 1 = .ok (.aload_n 0, 1) := by decide +kernel
theorem dX8_freeCallers_2 : decode cX8_freeCallers 2 = .ok (.getfield 19, 3) := by decide +kernel
theorem dX8_freeCallers_5 : decode cX8_freeCallers 5 = .ok (.getfield 187, 3) := by decide +kernel
theorem dX8_freeCallers_8 : decode cX8_freeCallers 8 = .ok (.ishl, 1) := by decide +kernel
theorem dX8_freeCallers_9 : decode cX8_freeCallers 9 = .ok (.iconst 1, 1) := by decide +kernel
theorem dX8_freeCallers_10 : decode cX8_freeCallers 10 = .ok (.isub, 1) := by decide +kernel
theorem dX8_freeCallers_11 : decode cX8_freeCallers 11 = .ok (.aload_n 0, 1) := by decide +kernel
theorem dX8_freeCallers_12 : decode cX8_freeCallers 12 = .ok (.getfield 39, 3) := by decide +kernel
theorem dX8_freeCallers_15 : decode cX8_freeCallers 15 = .ok (.invokevirtual 215, 3) := by decide +kernel
theorem dX8_freeCallers_18 : decode cX8_freeCallers 18 = .ok (.iconst (-1), 1) := by decide +kernel
theorem dX8_freeCallers_19 : decode cX8_freeCallers 19 = .ok (.ixor, 1) := by decide +kernel
theorem dX8_freeCallers_20 : decode cX8_freeCallers 20 = .ok (.iand, 1) := by decide +kernel
theorem dX8_freeCallers_21 : decode cX8_freeCallers 21 = .ok (.aload_n 0, 1) := by decide +kernel
theorem dX8_freeCallers_22 : decode cX8_freeCallers 22 = .ok (.getfield 39, 3) := by decide +kernel
theorem dX8_freeCallers_25 : decode cX8_freeCallers 25 = .ok (.getfield 112, 3) := by decide +kernel
theorem dX8_freeCallers_28 : decode cX8_freeCallers 28 = .ok (.iconst (-1), 1) := by decide +kernel
theorem dX8_freeCallers_29 : decode cX8_freeCallers 29 = .ok (.ixor, 1) := by decide +kernel
theorem dX8_freeCallers_30 : decode cX8_freeCallers 30 = .ok (.iand, 1) := by decide +kernel
theorem dX8_freeCallers_31 : decode cX8_freeCallers 31 = .ok (.ireturn, 1) := by decide +kernel
theorem dX8_settledWith_0 : decode cX8_settledWith 0 = .ok (.aload_n 0, 1) := by decide +kernel
theorem dX8_settledWith_1 : decode cX8_settledWith 1 = .ok (.getfield 43, 3) := by decide +kernel
theorem dX8_settledWith_4 : decode cX8_settledWith 4 = .ok (.aload_n 0, 1) := by decide +kernel
theorem dX8_settledWith_5 : decode cX8_settledWith 5 = .ok (.getfield 39, 3) := by decide +kernel
theorem dX8_settledWith_8 : decode cX8_settledWith 8 = .ok (.invokevirtual 166, 3) := by decide +kernel
theorem dX8_settledWith_11 : decode cX8_settledWith 11 = .ok (.iconst 0, 1) := by decide +kernel
theorem dX8_settledWith_12 : decode cX8_settledWith 12 = .ok (.istore_n 2, 1) := by decide +kernel
theorem dX8_settledWith_13 : decode cX8_settledWith 13 = .ok (.iload_n 2, 1) := by decide +kernel
theorem dX8_settledWith_14 : decode cX8_settledWith 14 = .ok (.aload_n 0, 1) := by decide +kernel
theorem dX8_settledWith_15 : decode cX8_settledWith 15 = .ok (.getfield 19, 3) := by decide +kernel
theorem dX8_settledWith_18 : decode cX8_settledWith 18 = .ok (.getfield 187, 3) := by decide +kernel
theorem dX8_settledWith_21 : decode cX8_settledWith 21 = .ok (.if_icmp .ge 26, 3) := by decide +kernel
theorem dX8_settledWith_24 : decode cX8_settledWith 24 = .ok (.iload_n 1, 1) := by decide +kernel
theorem dX8_settledWith_25 : decode cX8_settledWith 25 = .ok (.iload_n 2, 1) := by decide +kernel
theorem dX8_settledWith_26 : decode cX8_settledWith 26 = .ok (.ishr, 1) := by decide +kernel
theorem dX8_settledWith_27 : decode cX8_settledWith 27 = .ok (.iconst 1, 1) := by decide +kernel
theorem dX8_settledWith_28 : decode cX8_settledWith 28 = .ok (.iand, 1) := by decide +kernel
theorem dX8_settledWith_29 : decode cX8_settledWith 29 = .ok (.iconst 1, 1) := by decide +kernel
theorem dX8_settledWith_30 : decode cX8_settledWith 30 = .ok (.if_icmp .ne 11, 3) := by decide +kernel
theorem dX8_settledWith_33 : decode cX8_settledWith 33 = .ok (.aload_n 0, 1) := by decide +kernel
theorem dX8_settledWith_34 : decode cX8_settledWith 34 = .ok (.getfield 43, 3) := by decide +kernel
theorem dX8_settledWith_37 : decode cX8_settledWith 37 = .ok (.iload_n 2, 1) := by decide +kernel
theorem dX8_settledWith_38 : decode cX8_settledWith 38 = .ok (.invokevirtual 139, 3) := by decide +kernel
theorem dX8_settledWith_41 : decode cX8_settledWith 41 = .ok (.iinc 2 1, 3) := by decide +kernel
theorem dX8_settledWith_44 : decode cX8_settledWith 44 = .ok (.goto (-31), 3) := by decide +kernel
theorem dX8_settledWith_47 : decode cX8_settledWith 47 = .ok (.aload_n 0, 1) := by decide +kernel
theorem dX8_settledWith_48 : decode cX8_settledWith 48 = .ok (.getfield 43, 3) := by decide +kernel
theorem dX8_settledWith_51 : decode cX8_settledWith 51 = .ok (.aload_n 0, 1) := by decide +kernel
theorem dX8_settledWith_52 : decode cX8_settledWith 52 = .ok (.getfield 19, 3) := by decide +kernel
theorem dX8_settledWith_55 : decode cX8_settledWith 55 = .ok (.invokevirtual 181, 3) := by decide +kernel
theorem dX8_settledWith_58 : decode cX8_settledWith 58 = .ok (.pop, 1) := by decide +kernel
theorem dX8_settledWith_59 : decode cX8_settledWith 59 = .ok (.aload_n 0, 1) := by decide +kernel
theorem dX8_settledWith_60 : decode cX8_settledWith 60 = .ok (.getfield 43, 3) := by decide +kernel
theorem dX8_settledWith_63 : decode cX8_settledWith 63 = .ok (.getfield 112, 3) := by decide +kernel
theorem dX8_settledWith_66 : decode cX8_settledWith 66 = .ok (.ireturn, 1) := by decide +kernel
theorem dX8_isAsTold_0 : decode cX8_isAsTold 0 = .ok (.iload_n 1, 1) := by decide +kernel
theorem dX8_isAsTold_1 : decode cX8_isAsTold 1 = .ok (.aload_n 0, 1) := by decide +kernel
theorem dX8_isAsTold_2 : decode cX8_isAsTold 2 = .ok (.getfield 241, 3) := by decide +kernel
theorem dX8_isAsTold_5 : decode cX8_isAsTold 5 = .ok (.ixor, 1) := by decide +kernel
theorem dX8_isAsTold_6 : decode cX8_isAsTold 6 = .ok (.aload_n 0, 1) := by decide +kernel
theorem dX8_isAsTold_7 : decode cX8_isAsTold 7 = .ok (.getfield 238, 3) := by decide +kernel
theorem dX8_isAsTold_10 : decode cX8_isAsTold 10 = .ok (.iand, 1) := by decide +kernel
theorem dX8_isAsTold_11 : decode cX8_isAsTold 11 = .ok (.ifCond .ne 7, 3) := by decide +kernel
theorem dX8_isAsTold_14 : decode cX8_isAsTold 14 = .ok (.iconst 1, 1) := by decide +kernel
theorem dX8_isAsTold_15 : decode cX8_isAsTold 15 = .ok (.goto 4, 3) := by decide +kernel
theorem dX8_isAsTold_18 : decode cX8_isAsTold 18 = .ok (.iconst 0, 1) := by decide +kernel
theorem dX8_isAsTold_19 : decode cX8_isAsTold 19 = .ok (.ireturn, 1) := by decide +kernel
theorem dX8_addToTally_0 : decode cX8_addToTally 0 = .ok (.iconst 0, 1) := by decide +kernel
theorem dX8_addToTally_1 : decode cX8_addToTally 1 = .ok (.istore_n 2, 1) := by decide +kernel
theorem dX8_addToTally_2 : decode cX8_addToTally 2 = .ok (.iload_n 2, 1) := by decide +kernel
theorem dX8_addToTally_3 : decode cX8_addToTally 3 = .ok (.aload_n 0, 1) := by decide +kernel
theorem dX8_addToTally_4 : decode cX8_addToTally 4 = .ok (.getfield 66, 3) := by decide +kernel
theorem dX8_addToTally_7 : decode cX8_addToTally 7 = .ok (.arraylength, 1) := by decide +kernel
theorem dX8_addToTally_8 : decode cX8_addToTally 8 = .ok (.if_icmp .ge 23, 3) := by decide +kernel
theorem dX8_addToTally_11 : decode cX8_addToTally 11 = .ok (.aload_n 0, 1) := by decide +kernel
theorem dX8_addToTally_12 : decode cX8_addToTally 12 = .ok (.getfield 66, 3) := by decide +kernel
theorem dX8_addToTally_15 : decode cX8_addToTally 15 = .ok (.iload_n 2, 1) := by decide +kernel
theorem dX8_addToTally_16 : decode cX8_addToTally 16 = .ok (.dup2, 1) := by decide +kernel
theorem dX8_addToTally_17 : decode cX8_addToTally 17 = .ok (.iaload, 1) := by decide +kernel
theorem dX8_addToTally_18 : decode cX8_addToTally 18 = .ok (.iload_n 1, 1) := by decide +kernel
theorem dX8_addToTally_19 : decode cX8_addToTally 19 = .ok (.iload_n 2, 1) := by decide +kernel
theorem dX8_addToTally_20 : decode cX8_addToTally 20 = .ok (.ishr, 1) := by decide +kernel
theorem dX8_addToTally_21 : decode cX8_addToTally 21 = .ok (.iconst 1, 1) := by decide +kernel
theorem dX8_addToTally_22 : decode cX8_addToTally 22 = .ok (.iand, 1) := by decide +kernel
theorem dX8_addToTally_23 : decode cX8_addToTally 23 = .ok (.iadd, 1) := by decide +kernel
theorem dX8_addToTally_24 : decode cX8_addToTally 24 = .ok (.iastore, 1) := by decide +kernel
theorem dX8_addToTally_25 : decode cX8_addToTally 25 = .ok (.iinc 2 1, 3) := by decide +kernel
theorem dX8_addToTally_28 : decode cX8_addToTally 28 = .ok (.goto (-26), 3) := by decide +kernel
theorem dX8_addToTally_31 : decode cX8_addToTally 31 = .ok (.return_, 1) := by decide +kernel
theorem dX8_evenestUntold_0 : decode cX8_evenestUntold 0 = .ok (.iload_n 1, 1) := by decide +kernel
theorem dX8_evenestUntold_1 : decode cX8_evenestUntold 1 = .ok (.istore_n 2, 1) := by decide +kernel
theorem dX8_evenestUntold_2 : decode cX8_evenestUntold 2 = .ok (.iconst (-1), 1) := by decide +kernel
theorem dX8_evenestUntold_3 : decode cX8_evenestUntold 3 = .ok (.istore_n 3, 1) := by decide +kernel
theorem dX8_evenestUntold_4 : decode cX8_evenestUntold 4 = .ok (.iconst 0, 1) := by decide +kernel
theorem dX8_evenestUntold_5 : decode cX8_evenestUntold 5 = .ok (.istore 4, 2) := by decide +kernel
theorem dX8_evenestUntold_7 : decode cX8_evenestUntold 7 = .ok (.iload 4, 2) := by decide +kernel
theorem dX8_evenestUntold_9 : decode cX8_evenestUntold 9 = .ok (.aload_n 0, 1) := by decide +kernel
theorem dX8_evenestUntold_10 : decode cX8_evenestUntold 10 = .ok (.getfield 19, 3) := by decide +kernel
theorem dX8_evenestUntold_13 : decode cX8_evenestUntold 13 = .ok (.getfield 187, 3) := by decide +kernel
theorem dX8_evenestUntold_16 : decode cX8_evenestUntold 16 = .ok (.if_icmp .ge 54, 3) := by decide +kernel
theorem dX8_evenestUntold_19 : decode cX8_evenestUntold 19 = .ok (.aload_n 0, 1) := by decide +kernel
theorem dX8_evenestUntold_20 : decode cX8_evenestUntold 20 = .ok (.getfield 66, 3) := by decide +kernel
theorem dX8_evenestUntold_23 : decode cX8_evenestUntold 23 = .ok (.iload 4, 2) := by decide +kernel
theorem dX8_evenestUntold_25 : decode cX8_evenestUntold 25 = .ok (.iaload, 1) := by decide +kernel
theorem dX8_evenestUntold_26 : decode cX8_evenestUntold 26 = .ok (.iload_n 1, 1) := by decide +kernel
theorem dX8_evenestUntold_27 : decode cX8_evenestUntold 27 = .ok (.aload_n 0, 1) := by decide +kernel
theorem dX8_evenestUntold_28 : decode cX8_evenestUntold 28 = .ok (.getfield 66, 3) := by decide +kernel
theorem dX8_evenestUntold_31 : decode cX8_evenestUntold 31 = .ok (.iload 4, 2) := by decide +kernel
theorem dX8_evenestUntold_33 : decode cX8_evenestUntold 33 = .ok (.iaload, 1) := by decide +kernel
theorem dX8_evenestUntold_34 : decode cX8_evenestUntold 34 = .ok (.isub, 1) := by decide +kernel
theorem dX8_evenestUntold_35 : decode cX8_evenestUntold 35 = .ok (.invokestatic 319, 3) := by decide +kernel
theorem dX8_evenestUntold_38 : decode cX8_evenestUntold 38 = .ok (.istore 5, 2) := by decide +kernel
theorem dX8_evenestUntold_40 : decode cX8_evenestUntold 40 = .ok (.aload_n 0, 1) := by decide +kernel
theorem dX8_evenestUntold_41 : decode cX8_evenestUntold 41 = .ok (.getfield 238, 3) := by decide +kernel
theorem dX8_evenestUntold_44 : decode cX8_evenestUntold 44 = .ok (.iload 4, 2) := by decide +kernel
theorem dX8_evenestUntold_46 : decode cX8_evenestUntold 46 = .ok (.ishr, 1) := by decide +kernel
theorem dX8_evenestUntold_47 : decode cX8_evenestUntold 47 = .ok (.iconst 1, 1) := by decide +kernel
theorem dX8_evenestUntold_48 : decode cX8_evenestUntold 48 = .ok (.iand, 1) := by decide +kernel
theorem dX8_evenestUntold_49 : decode cX8_evenestUntold 49 = .ok (.ifCond .ne 15, 3) := by decide +kernel
theorem dX8_evenestUntold_52 : decode cX8_evenestUntold 52 = .ok (.iload 5, 2) := by decide +kernel
theorem dX8_evenestUntold_54 : decode cX8_evenestUntold 54 = .ok (.iload_n 2, 1) := by decide +kernel
theorem dX8_evenestUntold_55 : decode cX8_evenestUntold 55 = .ok (.if_icmp .ge 9, 3) := by decide +kernel
theorem dX8_evenestUntold_58 : decode cX8_evenestUntold 58 = .ok (.iload 5, 2) := by decide +kernel
theorem dX8_evenestUntold_60 : decode cX8_evenestUntold 60 = .ok (.istore_n 2, 1) := by decide +kernel
theorem dX8_evenestUntold_61 : decode cX8_evenestUntold 61 = .ok (.iload 4, 2) := by decide +kernel
theorem dX8_evenestUntold_63 : decode cX8_evenestUntold 63 = .ok (.istore_n 3, 1) := by decide +kernel
theorem dX8_evenestUntold_64 : decode cX8_evenestUntold 64 = .ok (.iinc 4 1, 3) := by decide +kernel
theorem dX8_evenestUntold_67 : decode cX8_evenestUntold 67 = .ok (.goto (-60), 3) := by decide +kernel
theorem dX8_evenestUntold_70 : decode cX8_evenestUntold 70 = .ok (.iload_n 3, 1) := by decide +kernel
theorem dX8_evenestUntold_71 : decode cX8_evenestUntold 71 = .ok (.ireturn, 1) := by decide +kernel
theorem dX8_findOrder_0 : decode cX8_findOrder 0 = .ok (.aload_n 0, 1) := by decide +kernel
theorem dX8_findOrder_1 : decode cX8_findOrder 1 = .ok (.getfield 59, 3) := by decide +kernel
theorem dX8_findOrder_4 : decode cX8_findOrder 4 = .ok (.aload_n 0, 1) := by decide +kernel
theorem dX8_findOrder_5 : decode cX8_findOrder 5 = .ok (.invokevirtual 199, 3) := by decide +kernel
theorem dX8_findOrder_8 : decode cX8_findOrder 8 = .ok (.invokevirtual 218, 3) := by decide +kernel
theorem dX8_findOrder_11 : decode cX8_findOrder 11 = .ok (.iconst 1, 1) := by decide +kernel
theorem dX8_findOrder_12 : decode cX8_findOrder 12 = .ok (.istore_n 1, 1) := by decide +kernel
theorem dX8_findOrder_13 : decode cX8_findOrder 13 = .ok (.iconst 0, 1) := by decide +kernel
theorem dX8_findOrder_14 : decode cX8_findOrder 14 = .ok (.istore_n 2, 1) := by decide +kernel
theorem dX8_findOrder_15 : decode cX8_findOrder 15 = .ok (.iload_n 1, 1) := by decide +kernel
theorem dX8_findOrder_16 : decode cX8_findOrder 16 = .ok (.ifCond .eq 124, 3) := by decide +kernel
theorem dX8_findOrder_19 : decode cX8_findOrder 19 = .ok (.iload_n 2, 1) := by decide +kernel
theorem dX8_findOrder_20 : decode cX8_findOrder 20 = .ok (.sipush 720, 3) := by decide +kernel
theorem dX8_findOrder_23 : decode cX8_findOrder 23 = .ok (.if_icmp .ge 117, 3) := by decide +kernel
theorem dX8_findOrder_26 : decode cX8_findOrder 26 = .ok (.aload_n 0, 1) := by decide +kernel
theorem dX8_findOrder_27 : decode cX8_findOrder 27 = .ok (.getfield 43, 3) := by decide +kernel
theorem dX8_findOrder_30 : decode cX8_findOrder 30 = .ok (.aload_n 0, 1) := by decide +kernel
theorem dX8_findOrder_31 : decode cX8_findOrder 31 = .ok (.getfield 39, 3) := by decide +kernel
theorem dX8_findOrder_34 : decode cX8_findOrder 34 = .ok (.invokevirtual 166, 3) := by decide +kernel
theorem dX8_findOrder_37 : decode cX8_findOrder 37 = .ok (.iconst 0, 1) := by decide +kernel
theorem dX8_findOrder_38 : decode cX8_findOrder 38 = .ok (.istore_n 3, 1) := by decide +kernel
theorem dX8_findOrder_39 : decode cX8_findOrder 39 = .ok (.iload_n 3, 1) := by decide +kernel
theorem dX8_findOrder_40 : decode cX8_findOrder 40 = .ok (.aload_n 0, 1) := by decide +kernel
theorem dX8_findOrder_41 : decode cX8_findOrder 41 = .ok (.getfield 59, 3) := by decide +kernel
theorem dX8_findOrder_44 : decode cX8_findOrder 44 = .ok (.getfield 231, 3) := by decide +kernel
theorem dX8_findOrder_47 : decode cX8_findOrder 47 = .ok (.if_icmp .ge 25, 3) := by decide +kernel
theorem dX8_findOrder_50 : decode cX8_findOrder 50 = .ok (.aload_n 0, 1) := by decide +kernel
theorem dX8_findOrder_51 : decode cX8_findOrder 51 = .ok (.getfield 43, 3) := by decide +kernel
theorem dX8_findOrder_54 : decode cX8_findOrder 54 = .ok (.aload_n 0, 1) := by decide +kernel
theorem dX8_findOrder_55 : decode cX8_findOrder 55 = .ok (.getfield 59, 3) := by decide +kernel
theorem dX8_findOrder_58 : decode cX8_findOrder 58 = .ok (.getfield 322, 3) := by decide +kernel
theorem dX8_findOrder_61 : decode cX8_findOrder 61 = .ok (.iload_n 3, 1) := by decide +kernel
theorem dX8_findOrder_62 : decode cX8_findOrder 62 = .ok (.iaload, 1) := by decide +kernel
theorem dX8_findOrder_63 : decode cX8_findOrder 63 = .ok (.invokevirtual 139, 3) := by decide +kernel
theorem dX8_findOrder_66 : decode cX8_findOrder 66 = .ok (.iinc 3 1, 3) := by decide +kernel
theorem dX8_findOrder_69 : decode cX8_findOrder 69 = .ok (.goto (-30), 3) := by decide +kernel
theorem dX8_findOrder_72 : decode cX8_findOrder 72 = .ok (.aload_n 0, 1) := by decide +kernel
theorem dX8_findOrder_73 : decode cX8_findOrder 73 = .ok (.getfield 43, 3) := by decide +kernel
theorem dX8_findOrder_76 : decode cX8_findOrder 76 = .ok (.aload_n 0, 1) := by decide +kernel
theorem dX8_findOrder_77 : decode cX8_findOrder 77 = .ok (.getfield 19, 3) := by decide +kernel
theorem dX8_findOrder_80 : decode cX8_findOrder 80 = .ok (.invokevirtual 181, 3) := by decide +kernel
theorem dX8_findOrder_83 : decode cX8_findOrder 83 = .ok (.pop, 1) := by decide +kernel
theorem dX8_findOrder_84 : decode cX8_findOrder 84 = .ok (.aload_n 0, 1) := by decide +kernel
theorem dX8_findOrder_85 : decode cX8_findOrder 85 = .ok (.getfield 59, 3) := by decide +kernel
theorem dX8_findOrder_88 : decode cX8_findOrder 88 = .ok (.aload_n 0, 1) := by decide +kernel
theorem dX8_findOrder_89 : decode cX8_findOrder 89 = .ok (.getfield 43, 3) := by decide +kernel
theorem dX8_findOrder_92 : decode cX8_findOrder 92 = .ok (.getfield 112, 3) := by decide +kernel
theorem dX8_findOrder_95 : decode cX8_findOrder 95 = .ok (.invokestatic 203, 3) := by decide +kernel
theorem dX8_findOrder_98 : decode cX8_findOrder 98 = .ok (.invokevirtual 225, 3) := by decide +kernel
theorem dX8_findOrder_101 : decode cX8_findOrder 101 = .ok (.aload_n 0, 1) := by decide +kernel
theorem dX8_findOrder_102 : decode cX8_findOrder 102 = .ok (.getfield 59, 3) := by decide +kernel
theorem dX8_findOrder_105 : decode cX8_findOrder 105 = .ok (.getfield 228, 3) := by decide +kernel
theorem dX8_findOrder_108 : decode cX8_findOrder 108 = .ok (.aload_n 0, 1) := by decide +kernel
theorem dX8_findOrder_109 : decode cX8_findOrder 109 = .ok (.getfield 19, 3) := by decide +kernel
theorem dX8_findOrder_112 : decode cX8_findOrder 112 = .ok (.getfield 187, 3) := by decide +kernel
theorem dX8_findOrder_115 : decode cX8_findOrder 115 = .ok (.if_icmp .ge 17, 3) := by decide +kernel
theorem dX8_findOrder_118 : decode cX8_findOrder 118 = .ok (.aload_n 0, 1) := by decide +kernel
theorem dX8_findOrder_119 : decode cX8_findOrder 119 = .ok (.getfield 59, 3) := by decide +kernel
theorem dX8_findOrder_122 : decode cX8_findOrder 122 = .ok (.invokevirtual 234, 3) := by decide +kernel
theorem dX8_findOrder_125 : decode cX8_findOrder 125 = .ok (.ifCond .eq 7, 3) := by decide +kernel
theorem dX8_findOrder_128 : decode cX8_findOrder 128 = .ok (.iconst 1, 1) := by decide +kernel
theorem dX8_findOrder_129 : decode cX8_findOrder 129 = .ok (.goto 4, 3) := by decide +kernel
theorem dX8_findOrder_132 : decode cX8_findOrder 132 = .ok (.iconst 0, 1) := by decide +kernel
theorem dX8_findOrder_133 : decode cX8_findOrder 133 = .ok (.istore_n 1, 1) := by decide +kernel
theorem dX8_findOrder_134 : decode cX8_findOrder 134 = .ok (.iinc 2 1, 3) := by decide +kernel
theorem dX8_findOrder_137 : decode cX8_findOrder 137 = .ok (.goto (-122), 3) := by decide +kernel
theorem dX8_findOrder_140 : decode cX8_findOrder 140 = .ok (.aload_n 0, 1) := by decide +kernel
theorem dX8_findOrder_141 : decode cX8_findOrder 141 = .ok (.getfield 59, 3) := by decide +kernel
theorem dX8_findOrder_144 : decode cX8_findOrder 144 = .ok (.iconst 1, 1) := by decide +kernel
theorem dX8_findOrder_145 : decode cX8_findOrder 145 = .ok (.putfield 170, 3) := by decide +kernel
theorem dX8_findOrder_148 : decode cX8_findOrder 148 = .ok (.return_, 1) := by decide +kernel
theorem dX8_settledNextBy_0 : decode cX8_settledNextBy 0 = .ok (.aload_n 0, 1) := by decide +kernel
theorem dX8_settledNextBy_1 : decode cX8_settledNextBy 1 = .ok (.getfield 43, 3) := by decide +kernel
theorem dX8_settledNextBy_4 : decode cX8_settledNextBy 4 = .ok (.aload_n 0, 1) := by decide +kernel
theorem dX8_settledNextBy_5 : decode cX8_settledNextBy 5 = .ok (.getfield 39, 3) := by decide +kernel
theorem dX8_settledNextBy_8 : decode cX8_settledNextBy 8 = .ok (.invokevirtual 166, 3) := by decide +kernel
theorem dX8_settledNextBy_11 : decode cX8_settledNextBy 11 = .ok (.aload_n 0, 1) := by decide +kernel
theorem dX8_settledNextBy_12 : decode cX8_settledNextBy 12 = .ok (.getfield 43, 3) := by decide +kernel
theorem dX8_settledNextBy_15 : decode cX8_settledNextBy 15 = .ok (.aload_n 1, 1) := by decide +kernel
theorem dX8_settledNextBy_16 : decode cX8_settledNextBy 16 = .ok (.getfield 322, 3) := by decide +kernel
theorem dX8_settledNextBy_19 : decode cX8_settledNextBy 19 = .ok (.aload_n 1, 1) := by decide +kernel
theorem dX8_settledNextBy_20 : decode cX8_settledNextBy 20 = .ok (.getfield 231, 3) := by decide +kernel
theorem dX8_settledNextBy_23 : decode cX8_settledNextBy 23 = .ok (.invokevirtual 325, 3) := by decide +kernel
theorem dX8_settledNextBy_26 : decode cX8_settledNextBy 26 = .ok (.aload_n 0, 1) := by decide +kernel
theorem dX8_settledNextBy_27 : decode cX8_settledNextBy 27 = .ok (.getfield 43, 3) := by decide +kernel
theorem dX8_settledNextBy_30 : decode cX8_settledNextBy 30 = .ok (.aload_n 0, 1) := by decide +kernel
theorem dX8_settledNextBy_31 : decode cX8_settledNextBy 31 = .ok (.getfield 19, 3) := by decide +kernel
theorem dX8_settledNextBy_34 : decode cX8_settledNextBy 34 = .ok (.aload_n 0, 1) := by decide +kernel
theorem dX8_settledNextBy_35 : decode cX8_settledNextBy 35 = .ok (.getfield 19, 3) := by decide +kernel
theorem dX8_settledNextBy_38 : decode cX8_settledNextBy 38 = .ok (.getfield 153, 3) := by decide +kernel
theorem dX8_settledNextBy_41 : decode cX8_settledNextBy 41 = .ok (.invokevirtual 156, 3) := by decide +kernel
theorem dX8_settledNextBy_44 : decode cX8_settledNextBy 44 = .ok (.ireturn, 1) := by decide +kernel
theorem dX8_gainOf_0 : decode cX8_gainOf 0 = .ok (.iload_n 0, 1) := by decide +kernel
theorem dX8_gainOf_1 : decode cX8_gainOf 1 = .ok (.iconst 1, 1) := by decide +kernel
theorem dX8_gainOf_2 : decode cX8_gainOf 2 = .ok (.if_icmp .ne 14, 3) := by decide +kernel
theorem dX8_gainOf_5 : decode cX8_gainOf 5 = .ok (.iload_n 1, 1) := by decide +kernel
theorem dX8_gainOf_6 : decode cX8_gainOf 6 = .ok (.iconst 1, 1) := by decide +kernel
theorem dX8_gainOf_7 : decode cX8_gainOf 7 = .ok (.if_icmp .ne 7, 3) := by decide +kernel
theorem dX8_gainOf_10 : decode cX8_gainOf 10 = .ok (.iload_n 2, 1) := by decide +kernel
theorem dX8_gainOf_11 : decode cX8_gainOf 11 = .ok (.goto 4, 3) := by decide +kernel
theorem dX8_gainOf_14 : decode cX8_gainOf 14 = .ok (.iload_n 3, 1) := by decide +kernel
theorem dX8_gainOf_15 : decode cX8_gainOf 15 = .ok (.ireturn, 1) := by decide +kernel
theorem dX8_gainOf_16 : decode cX8_gainOf 16 = .ok (.iload_n 1, 1) := by decide +kernel
theorem dX8_gainOf_17 : decode cX8_gainOf 17 = .ok (.iconst 1, 1) := by decide +kernel
theorem dX8_gainOf_18 : decode cX8_gainOf 18 = .ok (.if_icmp .ne 8, 3) := by decide +kernel
theorem dX8_gainOf_21 : decode cX8_gainOf 21 = .ok (.iload 4, 2) := by decide +kernel
theorem dX8_gainOf_23 : decode cX8_gainOf 23 = .ok (.goto 4, 3) := by decide +kernel
theorem dX8_gainOf_26 : decode cX8_gainOf 26 = .ok (.iconst 0, 1) := by decide +kernel
theorem dX8_gainOf_27 : decode cX8_gainOf 27 = .ok (.ireturn, 1) := by decide +kernel
theorem dX8_drawAfter_0 : decode cX8_drawAfter 0 = .ok (.lload_n 0, 1) := by decide +kernel
theorem dX8_drawAfter_1 : decode cX8_drawAfter 1 = .ok (.ldc2_w 329, 3) := by decide +kernel
theorem dX8_drawAfter_4 : decode cX8_drawAfter 4 = .ok (.lmul, 1) := by decide +kernel
theorem dX8_drawAfter_5 : decode cX8_drawAfter 5 = .ok (.ldc2_w 331, 3) := by decide +kernel
theorem dX8_drawAfter_8 : decode cX8_drawAfter 8 = .ok (.ladd, 1) := by decide +kernel
theorem dX8_drawAfter_9 : decode cX8_drawAfter 9 = .ok (.ldc2_w 333, 3) := by decide +kernel
theorem dX8_drawAfter_12 : decode cX8_drawAfter 12 = .ok (.lrem, 1) := by decide +kernel
theorem dX8_drawAfter_13 : decode cX8_drawAfter 13 = .ok (.lreturn, 1) := by decide +kernel
theorem dX8_actByDraw_0 : decode cX8_actByDraw 0 = .ok (.aload_n 0, 1) := by decide +kernel
theorem dX8_actByDraw_1 : decode cX8_actByDraw 1 = .ok (.getfield 19, 3) := by decide +kernel
theorem dX8_actByDraw_4 : decode cX8_actByDraw 4 = .ok (.getfield 187, 3) := by decide +kernel
theorem dX8_actByDraw_7 : decode cX8_actByDraw 7 = .ok (.ifCond .ne 5, 3) := by decide +kernel
theorem dX8_actByDraw_10 : decode cX8_actByDraw 10 = .ok (.lload_n 1, 1) := by decide +kernel
theorem dX8_actByDraw_11 : decode cX8_actByDraw 11 = .ok (.lreturn, 1) := by decide +kernel
theorem dX8_actByDraw_12 : decode cX8_actByDraw 12 = .ok (.lload_n 1, 1) := by decide +kernel
theorem dX8_actByDraw_13 : decode cX8_actByDraw 13 = .ok (.invokestatic 335, 3) := by decide +kernel
theorem dX8_actByDraw_16 : decode cX8_actByDraw 16 = .ok (.lstore_n 3, 1) := by decide +kernel
theorem dX8_actByDraw_17 : decode cX8_actByDraw 17 = .ok (.lload_n 3, 1) := by decide +kernel
theorem dX8_actByDraw_18 : decode cX8_actByDraw 18 = .ok (.ldc2_w 338, 3) := by decide +kernel
theorem dX8_actByDraw_21 : decode cX8_actByDraw 21 = .ok (.ldiv, 1) := by decide +kernel
theorem dX8_actByDraw_22 : decode cX8_actByDraw 22 = .ok (.aload_n 0, 1) := by decide +kernel
theorem dX8_actByDraw_23 : decode cX8_actByDraw 23 = .ok (.getfield 19, 3) := by decide +kernel
theorem dX8_actByDraw_26 : decode cX8_actByDraw 26 = .ok (.getfield 187, 3) := by decide +kernel
theorem dX8_actByDraw_29 : decode cX8_actByDraw 29 = .ok (.i2l, 1) := by decide +kernel
theorem dX8_actByDraw_30 : decode cX8_actByDraw 30 = .ok (.lrem, 1) := by decide +kernel
theorem dX8_actByDraw_31 : decode cX8_actByDraw 31 = .ok (.l2i, 1) := by decide +kernel
theorem dX8_actByDraw_32 : decode cX8_actByDraw 32 = .ok (.istore 5, 2) := by decide +kernel
theorem dX8_actByDraw_34 : decode cX8_actByDraw 34 = .ok (.aload_n 0, 1) := by decide +kernel
theorem dX8_actByDraw_35 : decode cX8_actByDraw 35 = .ok (.getfield 43, 3) := by decide +kernel
theorem dX8_actByDraw_38 : decode cX8_actByDraw 38 = .ok (.iload 5, 2) := by decide +kernel
theorem dX8_actByDraw_40 : decode cX8_actByDraw 40 = .ok (.invokevirtual 133, 3) := by decide +kernel
theorem dX8_actByDraw_43 : decode cX8_actByDraw 43 = .ok (.ifCond .eq 15, 3) := by decide +kernel
theorem dX8_actByDraw_46 : decode cX8_actByDraw 46 = .ok (.aload_n 0, 1) := by decide +kernel
theorem dX8_actByDraw_47 : decode cX8_actByDraw 47 = .ok (.getfield 43, 3) := by decide +kernel
theorem dX8_actByDraw_50 : decode cX8_actByDraw 50 = .ok (.iload 5, 2) := by decide +kernel
theorem dX8_actByDraw_52 : decode cX8_actByDraw 52 = .ok (.invokevirtual 139, 3) := by decide +kernel
theorem dX8_actByDraw_55 : decode cX8_actByDraw 55 = .ok (.goto 44, 3) := by decide +kernel
theorem dX8_actByDraw_58 : decode cX8_actByDraw 58 = .ok (.aload_n 0, 1) := by decide +kernel
theorem dX8_actByDraw_59 : decode cX8_actByDraw 59 = .ok (.getfield 43, 3) := by decide +kernel
theorem dX8_actByDraw_62 : decode cX8_actByDraw 62 = .ok (.iload 5, 2) := by decide +kernel
theorem dX8_actByDraw_64 : decode cX8_actByDraw 64 = .ok (.invokevirtual 115, 3) := by decide +kernel
theorem dX8_actByDraw_67 : decode cX8_actByDraw 67 = .ok (.iconst (-1), 1) := by decide +kernel
theorem dX8_actByDraw_68 : decode cX8_actByDraw 68 = .ok (.if_icmp .eq 31, 3) := by decide +kernel
theorem dX8_actByDraw_71 : decode cX8_actByDraw 71 = .ok (.lload_n 3, 1) := by decide +kernel
theorem dX8_actByDraw_72 : decode cX8_actByDraw 72 = .ok (.invokestatic 335, 3) := by decide +kernel
theorem dX8_actByDraw_75 : decode cX8_actByDraw 75 = .ok (.lstore_n 3, 1) := by decide +kernel
theorem dX8_actByDraw_76 : decode cX8_actByDraw 76 = .ok (.lload_n 3, 1) := by decide +kernel
theorem dX8_actByDraw_77 : decode cX8_actByDraw 77 = .ok (.ldc2_w 338, 3) := by decide +kernel
theorem dX8_actByDraw_80 : decode cX8_actByDraw 80 = .ok (.ldiv, 1) := by decide +kernel
theorem dX8_actByDraw_81 : decode cX8_actByDraw 81 = .ok (.ldc2_w 340, 3) := by decide +kernel
theorem dX8_actByDraw_84 : decode cX8_actByDraw 84 = .ok (.lrem, 1) := by decide +kernel
theorem dX8_actByDraw_85 : decode cX8_actByDraw 85 = .ok (.lconst 0, 1) := by decide +kernel
theorem dX8_actByDraw_86 : decode cX8_actByDraw 86 = .ok (.lcmp, 1) := by decide +kernel
theorem dX8_actByDraw_87 : decode cX8_actByDraw 87 = .ok (.ifCond .ne 12, 3) := by decide +kernel
theorem dX8_actByDraw_90 : decode cX8_actByDraw 90 = .ok (.aload_n 0, 1) := by decide +kernel
theorem dX8_actByDraw_91 : decode cX8_actByDraw 91 = .ok (.getfield 43, 3) := by decide +kernel
theorem dX8_actByDraw_94 : decode cX8_actByDraw 94 = .ok (.iload 5, 2) := by decide +kernel
theorem dX8_actByDraw_96 : decode cX8_actByDraw 96 = .ok (.invokevirtual 146, 3) := by decide +kernel
theorem dX8_actByDraw_99 : decode cX8_actByDraw 99 = .ok (.lload_n 3, 1) := by decide +kernel
theorem dX8_actByDraw_100 : decode cX8_actByDraw 100 = .ok (.lreturn, 1) := by decide +kernel
theorem dX9_init_0 : decode cX9_init 0 = .ok (.aload_n 0, 1) := by decide +kernel
theorem dX9_init_1 : decode cX9_init 1 = .ok (.invokespecial 1, 3) := by decide +kernel
theorem dX9_init_4 : decode cX9_init 4 = .ok (.aload_n 0, 1) := by decide +kernel
theorem dX9_init_5 : decode cX9_init 5 = .ok (.sipush 1000, 3) := by decide +kernel
theorem dX9_init_8 : decode cX9_init 8 = .ok (.newarray .int, 2) := by decide +kernel
theorem dX9_init_10 : decode cX9_init 10 = .ok (.putfield 7, 3) := by decide +kernel
theorem dX9_init_13 : decode cX9_init 13 = .ok (.aload_n 0, 1) := by decide +kernel
theorem dX9_init_14 : decode cX9_init 14 = .ok (.iconst 4, 1) := by decide +kernel
theorem dX9_init_15 : decode cX9_init 15 = .ok (.newarray .int, 2) := by decide +kernel
theorem dX9_init_17 : decode cX9_init 17 = .ok (.putfield 13, 3) := by decide +kernel
theorem dX9_init_20 : decode cX9_init 20 = .ok (.aload_n 0, 1) := by decide +kernel
theorem dX9_init_21 : decode cX9_init 21 = .ok (.bipush 12, 2) := by decide +kernel
theorem dX9_init_23 : decode cX9_init 23 = .ok (.newarray .long, 2) := by decide +kernel
theorem dX9_init_25 : decode cX9_init 25 = .ok (.putfield 16, 3) := by decide +kernel
theorem dX9_init_28 : decode cX9_init 28 = .ok (.aload_n 0, 1) := by decide +kernel
theorem dX9_init_29 : decode cX9_init 29 = .ok (.bipush 12, 2) := by decide +kernel
theorem dX9_init_31 : decode cX9_init 31 = .ok (.newarray .int, 2) := by decide +kernel
theorem dX9_init_33 : decode cX9_init 33 = .ok (.putfield 20, 3) := by decide +kernel
theorem dX9_init_36 : decode cX9_init 36 = .ok (.aload_n 0, 1) := by decide +kernel
theorem dX9_init_37 : decode cX9_init 37 = .ok (.bipush 12, 2) := by decide +kernel
theorem dX9_init_39 : decode cX9_init 39 = .ok (.newarray .int, 2) := by decide +kernel
theorem dX9_init_41 : decode cX9_init 41 = .ok (.putfield 23, 3) := by decide +kernel
theorem dX9_init_44 : decode cX9_init 44 = .ok (.aload_n 0, 1) := by decide +kernel
theorem dX9_init_45 : decode cX9_init 45 = .ok (.bipush 12, 2) := by decide +kernel
theorem dX9_init_47 : decode cX9_init 47 = .ok (.newarray .int, 2) := by decide +kernel
theorem dX9_init_49 : decode cX9_init 49 = .ok (.putfield 26, 3) := by decide +kernel
theorem dX9_init_52 : decode cX9_init 52 = .ok (.aload_n 0, 1) := by decide +kernel
theorem dX9_init_53 : decode cX9_init 53 = .ok (.bipush 12, 2) := by decide +kernel
theorem dX9_init_55 : decode cX9_init 55 = .ok (.newarray .int, 2) := by decide +kernel
theorem dX9_init_57 : decode cX9_init 57 = .ok (.putfield 29, 3) := by decide +kernel
theorem dX9_init_60 : decode cX9_init 60 = .ok (.aload_n 0, 1) := by decide +kernel
theorem dX9_init_61 : decode cX9_init 61 = .ok (.iconst 2, 1) := by decide +kernel
theorem dX9_init_62 : decode cX9_init 62 = .ok (.newarray .int, 2) := by decide +kernel
theorem dX9_init_64 : decode cX9_init 64 = .ok (.putfield 32, 3) := by decide +kernel
theorem dX9_init_67 : decode cX9_init 67 = .ok (.aload_n 0, 1) := by decide +kernel
theorem dX9_init_68 : decode cX9_init 68 = .ok (.iconst 2, 1) := by decide +kernel
theorem dX9_init_69 : decode cX9_init 69 = .ok (.newarray .int, 2) := by decide +kernel
theorem dX9_init_71 : decode cX9_init 71 = .ok (.putfield 35, 3) := by decide +kernel
theorem dX9_init_74 : decode cX9_init 74 = .ok (.aload_n 0, 1) := by decide +kernel
theorem dX9_init_75 : decode cX9_init 75 = .ok (.sipush 2000, 3) := by decide +kernel
theorem dX9_init_78 : decode cX9_init 78 = .ok (.newarray .int, 2) := by decide +kernel
theorem dX9_init_80 : decode cX9_init 80 = .ok (.putfield 38, 3) := by decide +kernel
theorem dX9_init_83 : decode cX9_init 83 = .ok (.aload_n 0, 1) := by decide +kernel
theorem dX9_init_84 : decode cX9_init 84 = .ok (.bipush 7, 2) := by decide +kernel
theorem dX9_init_86 : decode cX9_init 86 = .ok (.newarray .int, 2) := by decide +kernel
theorem dX9_init_88 : decode cX9_init 88 = .ok (.putfield 41, 3) := by decide +kernel
theorem dX9_init_91 : decode cX9_init 91 = .ok (.aload_n 0, 1) := by decide +kernel
theorem dX9_init_92 : decode cX9_init 92 = .ok (.bipush 7, 2) := by decide +kernel
theorem dX9_init_94 : decode cX9_init 94 = .ok (.newarray .boolean, 2) := by decide +kernel
theorem dX9_init_96 : decode cX9_init 96 = .ok (.putfield 44, 3) := by decide +kernel
theorem dX9_init_99 : decode cX9_init 99 = .ok (.aload_n 0, 1) := by decide +kernel
theorem dX9_init_100 : decode cX9_init 100 = .ok (.bipush 7, 2) := by decide +kernel
theorem dX9_init_102 : decode cX9_init 102 = .ok (.newarray .int, 2) := by decide +kernel
theorem dX9_init_104 : decode cX9_init 104 = .ok (.putfield 48, 3) := by decide +kernel
theorem dX9_init_107 : decode cX9_init 107 = .ok (.aload_n 0, 1) := by decide +kernel
theorem dX9_init_108 : decode cX9_init 108 = .ok (.bipush 7, 2) := by decide +kernel
theorem dX9_init_110 : decode cX9_init 110 = .ok (.newarray .int, 2) := by decide +kernel
theorem dX9_init_112 : decode cX9_init 112 = .ok (.putfield 51, 3) := by decide +kernel
theorem dX9_init_115 : decode cX9_init 115 = .ok (.aload_n 0, 1) := by decide +kernel
theorem dX9_init_116 : decode cX9_init 116 = .ok (.bipush 7, 2) := by decide +kernel
theorem dX9_init_118 : decode cX9_init 118 = .ok (.newarray .int, 2) := by decide +kernel
theorem dX9_init_120 : decode cX9_init 120 = .ok (.putfield 54, 3) := by decide +kernel
theorem dX9_init_123 : decode cX9_init 123 = .ok (.aload_n 0, 1) := by decide +kernel
theorem dX9_init_124 : decode cX9_init 124 = .ok (.bipush 7, 2) := by decide +kernel
theorem dX9_init_126 : decode cX9_init 126 = .ok (.newarray .int, 2) := by decide +kernel
theorem dX9_init_128 : decode cX9_init 128 = .ok (.putfield 57, 3) := by decide +kernel
theorem dX9_init_131 : decode cX9_init 131 = .ok (.aload_n 0, 1) := by decide +kernel
theorem dX9_init_132 : decode cX9_init 132 = .ok (.bipush 7, 2) := by decide +kernel
theorem dX9_init_134 : decode cX9_init 134 = .ok (.newarray .int, 2) := by decide +kernel
theorem dX9_init_136 : decode cX9_init 136 = .ok (.putfield 60, 3) := by decide +kernel
theorem dX9_init_139 : decode cX9_init 139 = .ok (.aload_n 0, 1) := by decide +kernel
theorem dX9_init_140 : decode cX9_init 140 = .ok (.bipush 7, 2) := by decide +kernel
theorem dX9_init_142 : decode cX9_init 142 = .ok (.newarray .int, 2) := by decide +kernel
theorem dX9_init_144 : decode cX9_init 144 = .ok (.putfield 63, 3) := by decide +kernel
theorem dX9_init_147 : decode cX9_init 147 = .ok (.aload_n 0, 1) := by decide +kernel
theorem dX9_init_148 : decode cX9_init 148 = .ok (.bipush 7, 2) := by decide +kernel
theorem dX9_init_150 : decode cX9_init 150 = .ok (.newarray .int, 2) := by decide +kernel
theorem dX9_init_152 : decode cX9_init 152 = .ok (.putfield 66, 3) := by decide +kernel
theorem dX9_init_155 : decode cX9_init 155 = .ok (.aload_n 0, 1) := by decide +kernel
theorem dX9_init_156 : decode cX9_init 156 = .ok (.bipush 7, 2) := by decide +kernel
theorem dX9_init_158 : decode cX9_init 158 = .ok (.newarray .int, 2) := by decide +kernel
theorem dX9_init_160 : decode cX9_init 160 = .ok (.putfield 69, 3) := by decide +kernel
theorem dX9_init_163 : decode cX9_init 163 = .ok (.aload_n 0, 1) := by decide +kernel
theorem dX9_init_164 : decode cX9_init 164 = .ok (.bipush 7, 2) := by decide +kernel
theorem dX9_init_166 : decode cX9_init 166 = .ok (.newarray .int, 2) := by decide +kernel
theorem dX9_init_168 : decode cX9_init 168 = .ok (.putfield 72, 3) := by decide +kernel
theorem dX9_init_171 : decode cX9_init 171 = .ok (.aload_n 0, 1) := by decide +kernel
theorem dX9_init_172 : decode cX9_init 172 = .ok (.bipush 20, 2) := by decide +kernel
theorem dX9_init_174 : decode cX9_init 174 = .ok (.newarray .int, 2) := by decide +kernel
theorem dX9_init_176 : decode cX9_init 176 = .ok (.putfield 75, 3) := by decide +kernel
theorem dX9_init_179 : decode cX9_init 179 = .ok (.aload_n 0, 1) := by decide +kernel
theorem dX9_init_180 : decode cX9_init 180 = .ok (.bipush 6, 2) := by decide +kernel
theorem dX9_init_182 : decode cX9_init 182 = .ok (.newarray .int, 2) := by decide +kernel
theorem dX9_init_184 : decode cX9_init 184 = .ok (.putfield 78, 3) := by decide +kernel
theorem dX9_init_187 : decode cX9_init 187 = .ok (.aload_n 0, 1) := by decide +kernel
theorem dX9_init_188 : decode cX9_init 188 = .ok (.sipush 240, 3) := by decide +kernel
theorem dX9_init_191 : decode cX9_init 191 = .ok (.newarray .int, 2) := by decide +kernel
theorem dX9_init_193 : decode cX9_init 193 = .ok (.putfield 81, 3) := by decide +kernel
theorem dX9_init_196 : decode cX9_init 196 = .ok (.aload_n 0, 1) := by decide +kernel
theorem dX9_init_197 : decode cX9_init 197 = .ok (.sipush 240, 3) := by decide +kernel
theorem dX9_init_200 : decode cX9_init 200 = .ok (.newarray .int, 2) := by decide +kernel
theorem dX9_init_202 : decode cX9_init 202 = .ok (.putfield 84, 3) := by decide +kernel
theorem dX9_init_205 : decode cX9_init 205 = .ok (.aload_n 0, 1) := by decide +kernel
theorem dX9_init_206 : decode cX9_init 206 = .ok (.sipush 240, 3) := by decide +kernel
theorem dX9_init_209 : decode cX9_init 209 = .ok (.newarray .int, 2) := by decide +kernel
theorem dX9_init_211 : decode cX9_init 211 = .ok (.putfield 87, 3) := by decide +kernel
theorem dX9_init_214 : decode cX9_init 214 = .ok (.aload_n 0, 1) := by decide +kernel
theorem dX9_init_215 : decode cX9_init 215 = .ok (.bipush 30, 2) := by decide +kernel
theorem dX9_init_217 : decode cX9_init 217 = .ok (.newarray .int, 2) := by decide +kernel
theorem dX9_init_219 : decode cX9_init 219 = .ok (.putfield 90, 3) := by decide +kernel
theorem dX9_init_222 : decode cX9_init 222 = .ok (.aload_n 0, 1) := by decide +kernel
theorem dX9_init_223 : decode cX9_init 223 = .ok (.bipush 58, 2) := by decide +kernel
theorem dX9_init_225 : decode cX9_init 225 = .ok (.newarray .int, 2) := by decide +kernel
theorem dX9_init_227 : decode cX9_init 227 = .ok (.putfield 93, 3) := by decide +kernel
theorem dX9_init_230 : decode cX9_init 230 = .ok (.aload_n 0, 1) := by decide +kernel
theorem dX9_init_231 : decode cX9_init 231 = .ok (.bipush 58, 2) := by decide +kernel
theorem dX9_init_233 : decode cX9_init 233 = .ok (.newarray .int, 2) := by decide +kernel
theorem dX9_init_235 : decode cX9_init 235 = .ok (.putfield 96, 3) := by decide +kernel
theorem dX9_init_238 : decode cX9_init 238 = .ok (.aload_n 0, 1) := by decide +kernel
theorem dX9_init_239 : decode cX9_init 239 = .ok (.bipush 58, 2) := by decide +kernel
theorem dX9_init_241 : decode cX9_init 241 = .ok (.newarray .int, 2) := by decide +kernel
theorem dX9_init_243 : decode cX9_init 243 = .ok (.putfield 99, 3) := by decide +kernel
theorem dX9_init_246 : decode cX9_init 246 = .ok (.aload_n 0, 1) := by decide +kernel
theorem dX9_init_247 : decode cX9_init 247 = .ok (.sipush 232, 3) := by decide +kernel
theorem dX9_init_250 : decode cX9_init 250 = .ok (.newarray .int, 2) := by decide +kernel
theorem dX9_init_252 : decode cX9_init 252 = .ok (.putfield 102, 3) := by decide +kernel
theorem dX9_init_255 : decode cX9_init 255 = .ok (.aload_n 0, 1) := by decide +kernel
theorem dX9_init_256 : decode cX9_init 256 = .ok (.sipush 928, 3) := by decide +kernel
theorem dX9_init_259 : decode cX9_init 259 = .ok (.newarray .int, 2) := by decide +kernel
theorem dX9_init_261 : decode cX9_init 261 = .ok (.putfield 105, 3) := by decide +kernel
theorem dX9_init_264 : decode cX9_init 264 = .ok (.aload_n 0, 1) := by decide +kernel
theorem dX9_init_265 : decode cX9_init 265 = .ok (.iconst 4, 1) := by decide +kernel
theorem dX9_init_266 : decode cX9_init 266 = .ok (.newarray .boolean, 2) := by decide +kernel
theorem dX9_init_268 : decode cX9_init 268 = .ok (.putfield 108, 3) := by decide +kernel
theorem dX9_init_271 : decode cX9_init 271 = .ok (.aload_n 0, 1) := by decide +kernel
theorem dX9_init_272 : decode cX9_init 272 = .ok (.bipush 6, 2) := by decide +kernel
theorem dX9_init_274 : decode cX9_init 274 = .ok (.newarray .int, 2) := by decide +kernel
theorem dX9_init_276 : decode cX9_init 276 = .ok (.putfield 111, 3) := by decide +kernel
theorem dX9_init_279 : decode cX9_init 279 = .ok (.aload_n 0, 1) := by decide +kernel
theorem dX9_init_280 : decode cX9_init 280 = .ok (.bipush 6, 2) := by decide +kernel
theorem dX9_init_282 : decode cX9_init 282 = .ok (.newarray .int, 2) := by decide +kernel
theorem dX9_init_284 : decode cX9_init 284 = .ok (.putfield 114, 3) := by decide +kernel
theorem dX9_init_287 : decode cX9_init 287 = .ok (.aload_n 0, 1) := by decide +kernel
theorem dX9_init_288 : decode cX9_init 288 = .ok (.bipush 6, 2) := by decide +kernel
theorem dX9_init_290 : decode cX9_init 290 = .ok (.newarray .int, 2) := by decide +kernel
theorem dX9_init_292 : decode cX9_init 292 = .ok (.putfield 117, 3) := by decide +kernel
theorem dX9_init_295 : decode cX9_init 295 = .ok (.aload_n 0, 1) := by decide +kernel
theorem dX9_init_296 : decode cX9_init 296 = .ok (.bipush 64, 2) := by decide +kernel
theorem dX9_init_298 : decode cX9_init 298 = .ok (.newarray .int, 2) := by decide +kernel
theorem dX9_init_300 : decode cX9_init 300 = .ok (.putfield 120, 3) := by decide +kernel
theorem dX9_init_303 : decode cX9_init 303 = .ok (.aload_n 0, 1) := by decide +kernel
theorem dX9_init_304 : decode cX9_init 304 = .ok (.getfield 13, 3) := by decide +kernel
theorem dX9_init_307 : decode cX9_init 307 = .ok (.iconst 1, 1) := by decide +kernel
theorem dX9_init_308 : decode cX9_init 308 = .ok (.iconst 5, 1) := by decide +kernel
theorem dX9_init_309 : decode cX9_init 309 = .ok (.iastore, 1) := by decide +kernel
theorem dX9_init_310 : decode cX9_init 310 = .ok (.aload_n 0, 1) := by decide +kernel
theorem dX9_init_311 : decode cX9_init 311 = .ok (.iconst 5, 1) := by decide +kernel
theorem dX9_init_312 : decode cX9_init 312 = .ok (.putfield 123, 3) := by decide +kernel
theorem dX9_init_315 : decode cX9_init 315 = .ok (.aload_n 0, 1) := by decide +kernel
theorem dX9_init_316 : decode cX9_init 316 = .ok (.invokevirtual 127, 3) := by decide +kernel
theorem dX9_init_319 : decode cX9_init 319 = .ok (.return_, 1) := by decide +kernel
theorem dX9_thrown_0 : decode cX9_thrown 0 = .ok (.aload_n 0, 1) := by decide +kernel
theorem dX9_thrown_1 : decode cX9_thrown 1 = .ok (.getfield 130, 3) := by decide +kernel
theorem dX9_thrown_4 : decode cX9_thrown 4 = .ok (.ireturn, 1) := by decide +kernel
theorem dX9_within_0 : decode cX9_within 0 = .ok (.iload_n 0, 1) := by decide +kernel
theorem dX9_within_1 : decode cX9_within 1 = .ok (.iload_n 1, 1) := by decide +kernel
theorem dX9_within_2 : decode cX9_within 2 = .ok (.if_icmp .lt 12, 3) := by decide +kernel
theorem dX9_within_5 : decode cX9_within 5 = .ok (.iload_n 0, 1) := by decide +kernel
theorem dX9_within_6 : decode cX9_within 6 = .ok (.iload_n 2, 1) := by decide +kernel
theorem dX9_within_7 : decode cX9_within 7 = .ok (.if_icmp .gt 7, 3) := by decide +kernel
theorem dX9_within_10 : decode cX9_within 10 = .ok (.iconst 1, 1) := by decide +kernel
theorem dX9_within_11 : decode cX9_within 11 = .ok (.goto 4, 3) := by decide +kernel
theorem dX9_within_14 : decode cX9_within 14 = .ok (.iconst 0, 1) := by decide +kernel
theorem dX9_within_15 : decode cX9_within 15 = .ok (.ireturn, 1) := by decide +kernel
theorem dX9_bits_0 : decode cX9_bits 0 = .ok (.iconst 0, 1) := by decide +kernel
theorem dX9_bits_1 : decode cX9_bits 1 = .ok (.istore_n 1, 1) := by decide +kernel
theorem dX9_bits_2 : decode cX9_bits 2 = .ok (.iconst 0, 1) := by decide +kernel
theorem dX9_bits_3 : decode cX9_bits 3 = .ok (.istore_n 2, 1) := by decide +kernel
theorem dX9_bits_4 : decode cX9_bits 4 = .ok (.iload_n 2, 1) := by decide +kernel
theorem dX9_bits_5 : decode cX9_bits 5 = .ok (.bipush 10, 2) := by decide +kernel
theorem dX9_bits_7 : decode cX9_bits 7 = .ok (.if_icmp .ge 17, 3) := by decide +kernel
theorem dX9_bits_10 : decode cX9_bits 10 = .ok (.iload_n 1, 1) := by decide +kernel
theorem dX9_bits_11 : decode cX9_bits 11 = .ok (.iload_n 0, 1) := by decide +kernel
theorem dX9_bits_12 : decode cX9_bits 12 = .ok (.iload_n 2, 1) := by decide +kernel
theorem dX9_bits_13 : decode cX9_bits 13 = .ok (.ishr, 1) := by decide +kernel
theorem dX9_bits_14 : decode cX9_bits 14 = .ok (.iconst 1, 1) := by decide +kernel
theorem dX9_bits_15 : decode cX9_bits 15 = .ok (.iand, 1) := by decide +kernel
theorem dX9_bits_16 : decode cX9_bits 16 = .ok (.iadd, 1) := by decide +kernel
theorem dX9_bits_17 : decode cX9_bits 17 = .ok (.istore_n 1, 1) := by decide +kernel
theorem dX9_bits_18 : decode cX9_bits 18 = .ok (.iinc 2 1, 3) := by decide +kernel
theorem dX9_bits_21 : decode cX9_bits 21 = .ok (.goto (-17), 3) := by decide +kernel
theorem dX9_bits_24 : decode cX9_bits 24 = .ok (.iload_n 1, 1) := by decide +kernel
theorem dX9_bits_25 : decode cX9_bits 25 = .ok (.ireturn, 1) := by decide +kernel
theorem dX9_feed_0 : decode cX9_feed 0 = .ok (.aload_n 0, 1) := by decide +kernel
theorem dX9_feed_1 : decode cX9_feed 1 = .ok (.iconst 0, 1) := by decide +kernel
theorem dX9_feed_2 : decode cX9_feed 2 = .ok (.putfield 130, 3) := by decide +kernel
theorem dX9_feed_5 : decode cX9_feed 5 = .ok (.iconst 0, 1) := by decide +kernel
theorem dX9_feed_6 : decode cX9_feed 6 = .ok (.istore 7, 2) := by decide +kernel
theorem dX9_feed_8 : decode cX9_feed 8 = .ok (.iload 7, 2) := by decide +kernel
theorem dX9_feed_10 : decode cX9_feed 10 = .ok (.bipush 24, 2) := by decide +kernel
theorem dX9_feed_12 : decode cX9_feed 12 = .ok (.if_icmp .ge 108, 3) := by decide +kernel
theorem dX9_feed_15 : decode cX9_feed 15 = .ok (.iload 7, 2) := by decide +kernel
theorem dX9_feed_17 : decode cX9_feed 17 = .ok (.bipush 8, 2) := by decide +kernel
theorem dX9_feed_19 : decode cX9_feed 19 = .ok (.if_icmp .ge 7, 3) := by decide +kernel
theorem dX9_feed_22 : decode cX9_feed 22 = .ok (.lload_n 1, 1) := by decide +kernel
theorem dX9_feed_23 : decode cX9_feed 23 = .ok (.goto 16, 3) := by decide +kernel
theorem dX9_feed_26 : decode cX9_feed 26 = .ok (.iload 7, 2) := by decide +kernel
theorem dX9_feed_28 : decode cX9_feed 28 = .ok (.bipush 16, 2) := by decide +kernel
theorem dX9_feed_30 : decode cX9_feed 30 = .ok (.if_icmp .ge 7, 3) := by decide +kernel
theorem dX9_feed_33 : decode cX9_feed 33 = .ok (.lload_n 3, 1) := by decide +kernel
theorem dX9_feed_34 : decode cX9_feed 34 = .ok (.goto 5, 3) := by decide +kernel
theorem dX9_feed_37 : decode cX9_feed 37 = .ok (.lload 5, 2) := by decide +kernel
theorem dX9_feed_39 : decode cX9_feed 39 = .ok (.lstore 8, 2) := by decide +kernel
theorem dX9_feed_41 : decode cX9_feed 41 = .ok (.lload 8, 2) := by decide +kernel
theorem dX9_feed_43 : decode cX9_feed 43 = .ok (.bipush 56, 2) := by decide +kernel
theorem dX9_feed_45 : decode cX9_feed 45 = .ok (.bipush 8, 2) := by decide +kernel
theorem dX9_feed_47 : decode cX9_feed 47 = .ok (.iload 7, 2) := by decide +kernel
theorem dX9_feed_49 : decode cX9_feed 49 = .ok (.bipush 7, 2) := by decide +kernel
theorem dX9_feed_51 : decode cX9_feed 51 = .ok (.iand, 1) := by decide +kernel
theorem dX9_feed_52 : decode cX9_feed 52 = .ok (.imul, 1) := by decide +kernel
theorem dX9_feed_53 : decode cX9_feed 53 = .ok (.isub, 1) := by decide +kernel
theorem dX9_feed_54 : decode cX9_feed 54 = .ok (.lushr, 1) := by decide +kernel
theorem dX9_feed_55 : decode cX9_feed 55 = .ok (.ldc2_w 133, 3) := by decide +kernel
theorem dX9_feed_58 : decode cX9_feed 58 = .ok (.land, 1) := by decide +kernel
theorem dX9_feed_59 : decode cX9_feed 59 = .ok (.l2i, 1) := by decide +kernel
theorem dX9_feed_60 : decode cX9_feed 60 = .ok (.istore 10, 2) := by decide +kernel
theorem dX9_feed_62 : decode cX9_feed 62 = .ok (.aload_n 0, 1) := by decide +kernel
theorem dX9_feed_63 : decode cX9_feed 63 = .ok (.getfield 135, 3) := by decide +kernel
theorem dX9_feed_66 : decode cX9_feed 66 = .ok (.sipush 1000, 3) := by decide +kernel
theorem dX9_feed_69 : decode cX9_feed 69 = .ok (.if_icmp .ge 45, 3) := by decide +kernel
theorem dX9_feed_72 : decode cX9_feed 72 = .ok (.iload 10, 2) := by decide +kernel
theorem dX9_feed_74 : decode cX9_feed 74 = .ok (.bipush 10, 2) := by decide +kernel
theorem dX9_feed_76 : decode cX9_feed 76 = .ok (.if_icmp .eq 17, 3) := by decide +kernel
theorem dX9_feed_79 : decode cX9_feed 79 = .ok (.iload 10, 2) := by decide +kernel
theorem dX9_feed_81 : decode cX9_feed 81 = .ok (.bipush 32, 2) := by decide +kernel
theorem dX9_feed_83 : decode cX9_feed 83 = .ok (.if_icmp .lt 31, 3) := by decide +kernel
theorem dX9_feed_86 : decode cX9_feed 86 = .ok (.iload 10, 2) := by decide +kernel
theorem dX9_feed_88 : decode cX9_feed 88 = .ok (.bipush 126, 2) := by decide +kernel
theorem dX9_feed_90 : decode cX9_feed 90 = .ok (.if_icmp .gt 24, 3) := by decide +kernel
theorem dX9_feed_93 : decode cX9_feed 93 = .ok (.aload_n 0, 1) := by decide +kernel
theorem dX9_feed_94 : decode cX9_feed 94 = .ok (.getfield 7, 3) := by decide +kernel
theorem dX9_feed_97 : decode cX9_feed 97 = .ok (.aload_n 0, 1) := by decide +kernel
theorem dX9_feed_98 : decode cX9_feed 98 = .ok (.getfield 135, 3) := by decide +kernel
theorem dX9_feed_101 : decode cX9_feed 101 = .ok (.iload 10, 2) := by decide +kernel
theorem dX9_feed_103 : decode cX9_feed 103 = .ok (.iastore, 1) := by decide +kernel
theorem dX9_feed_104 : decode cX9_feed 104 = .ok (.aload_n 0, 1) := by decide +kernel
theorem dX9_feed_105 : decode cX9_feed 105 = .ok (.dup, 1) := by decide +kernel
theorem dX9_feed_106 : decode cX9_feed 106 = .ok (.getfield 135, 3) := by decide +kernel
theorem dX9_feed_109 : decode cX9_feed 109 = .ok (.iconst 1, 1) := by decide +kernel
theorem dX9_feed_110 : decode cX9_feed 110 = .ok (.iadd, 1) := by decide +kernel
theorem dX9_feed_111 : decode cX9_feed 111 = .ok (.putfield 135, 3) := by decide +kernel
theorem dX9_feed_114 : decode cX9_feed 114 = .ok (.iinc 7 1, 3) := by decide +kernel
theorem dX9_feed_117 : decode cX9_feed 117 = .ok (.goto (-109), 3) := by decide +kernel
theorem dX9_feed_120 : decode cX9_feed 120 = .ok (.aload_n 0, 1) := by decide +kernel
theorem dX9_feed_121 : decode cX9_feed 121 = .ok (.getfield 135, 3) := by decide +kernel
theorem dX9_feed_124 : decode cX9_feed 124 = .ok (.ireturn, 1) := by decide +kernel
theorem dX9_signAt_0 : decode cX9_signAt 0 = .ok (.iload_n 1, 1) := by decide +kernel
theorem dX9_signAt_1 : decode cX9_signAt 1 = .ok (.aload_n 0, 1) := by decide +kernel
theorem dX9_signAt_2 : decode cX9_signAt 2 = .ok (.getfield 138, 3) := by decide +kernel
theorem dX9_signAt_5 : decode cX9_signAt 5 = .ok (.if_icmp .ge 12, 3) := by decide +kernel
theorem dX9_signAt_8 : decode cX9_signAt 8 = .ok (.aload_n 0, 1) := by decide +kernel
theorem dX9_signAt_9 : decode cX9_signAt 9 = .ok (.getfield 7, 3) := by decide +kernel
theorem dX9_signAt_12 : decode cX9_signAt 12 = .ok (.iload_n 1, 1) := by decide +kernel
theorem dX9_signAt_13 : decode cX9_signAt 13 = .ok (.iaload, 1) := by decide +kernel
theorem dX9_signAt_14 : decode cX9_signAt 14 = .ok (.goto 4, 3) := by decide +kernel
theorem dX9_signAt_17 : decode cX9_signAt 17 = .ok (.iconst 0, 1) := by decide +kernel
theorem dX9_signAt_18 : decode cX9_signAt 18 = .ok (.ireturn, 1) := by decide +kernel
theorem dX9_nextToken_0 : decode cX9_nextToken 0 = .ok (.aload_n 0, 1) := by decide +kernel
theorem dX9_nextToken_1 : decode cX9_nextToken 1 = .ok (.getfield 141, 3) := by decide +kernel
theorem dX9_nextToken_4 : decode cX9_nextToken 4 = .ok (.aload_n 0, 1) := by decide +kernel
theorem dX9_nextToken_5 : decode cX9_nextToken 5 = .ok (.getfield 138, 3) := by decide +kernel
theorem dX9_nextToken_8 : decode cX9_nextToken 8 = .ok (.if_icmp .ge 44, 3) := by decide +kernel
theorem dX9_nextToken_11 : decode cX9_nextToken 11 = .ok (.aload_n 0, 1) := by decide +kernel
theorem dX9_nextToken_12 : decode cX9_nextToken 12 = .ok (.getfield 7, 3) := by decide +kernel
theorem dX9_nextToken_15 : decode cX9_nextToken 15 = .ok (.aload_n 0, 1) := by decide +kernel
theorem dX9_nextToken_16 : decode cX9_nextToken 16 = .ok (.getfield 141, 3) := by decide +kernel
theorem dX9_nextToken_19 : decode cX9_nextToken 19 = .ok (.iaload, 1) := by decide +kernel
theorem dX9_nextToken_20 : decode cX9_nextToken 20 = .ok (.bipush 32, 2) := by decide +kernel
theorem dX9_nextToken_22 : decode cX9_nextToken 22 = .ok (.if_icmp .eq 17, 3) := by decide +kernel
theorem dX9_nextToken_25 : decode cX9_nextToken 25 = .ok (.aload_n 0, 1) := by decide +kernel
theorem dX9_nextToken_26 : decode cX9_nextToken 26 = .ok (.getfield 7, 3) := by decide +kernel
theorem dX9_nextToken_29 : decode cX9_nextToken 29 = .ok (.aload_n 0, 1) := by decide +kernel
theorem dX9_nextToken_30 : decode cX9_nextToken 30 = .ok (.getfield 141, 3) := by decide +kernel
theorem dX9_nextToken_33 : decode cX9_nextToken 33 = .ok (.iaload, 1) := by decide +kernel
theorem dX9_nextToken_34 : decode cX9_nextToken 34 = .ok (.bipush 10, 2) := by decide +kernel
theorem dX9_nextToken_36 : decode cX9_nextToken 36 = .ok (.if_icmp .ne 16, 3) := by decide +kernel
theorem dX9_nextToken_39 : decode cX9_nextToken 39 = .ok (.aload_n 0, 1) := by decide +kernel
theorem dX9_nextToken_40 : decode cX9_nextToken 40 = .ok (.dup, 1) := by decide +kernel
theorem dX9_nextToken_41 : decode cX9_nextToken 41 = .ok (.getfield 141, 3) := by decide +kernel
theorem dX9_nextToken_44 : decode cX9_nextToken 44 = .ok (.iconst 1, 1) := by decide +kernel
theorem dX9_nextToken_45 : decode cX9_nextToken 45 = .ok (.iadd, 1) := by decide +kernel
theorem dX9_nextToken_46 : decode cX9_nextToken 46 = .ok (.putfield 141, 3) := by decide +kernel
theorem dX9_nextToken_49 : decode cX9_nextToken 49 = .ok (.goto (-49), 3) := by decide +kernel
theorem dX9_nextToken_52 : decode cX9_nextToken 52 = .ok (.aload_n 0, 1) := by decide +kernel
theorem dX9_nextToken_53 : decode cX9_nextToken 53 = .ok (.aload_n 0, 1) := by decide +kernel
theorem dX9_nextToken_54 : decode cX9_nextToken 54 = .ok (.getfield 141, 3) := by decide +kernel
theorem dX9_nextToken_57 : decode cX9_nextToken 57 = .ok (.putfield 144, 3) := by decide +kernel
theorem dX9_nextToken_60 : decode cX9_nextToken 60 = .ok (.aload_n 0, 1) := by decide +kernel
theorem dX9_nextToken_61 : decode cX9_nextToken 61 = .ok (.lconst 0, 1) := by decide +kernel
theorem dX9_nextToken_62 : decode cX9_nextToken 62 = .ok (.putfield 147, 3) := by decide +kernel
theorem dX9_nextToken_65 : decode cX9_nextToken 65 = .ok (.aload_n 0, 1) := by decide +kernel
theorem dX9_nextToken_66 : decode cX9_nextToken 66 = .ok (.iconst 0, 1) := by decide +kernel
theorem dX9_nextToken_67 : decode cX9_nextToken 67 = .ok (.putfield 151, 3) := by decide +kernel
theorem dX9_nextToken_70 : decode cX9_nextToken 70 = .ok (.aload_n 0, 1) := by decide +kernel
theorem dX9_nextToken_71 : decode cX9_nextToken 71 = .ok (.getfield 141, 3) := by decide +kernel
theorem dX9_nextToken_74 : decode cX9_nextToken 74 = .ok (.aload_n 0, 1) := by decide +kernel
theorem dX9_nextToken_75 : decode cX9_nextToken 75 = .ok (.getfield 138, 3) := by decide +kernel
theorem dX9_nextToken_78 : decode cX9_nextToken 78 = .ok (.if_icmp .ne 9, 3) := by decide +kernel
theorem dX9_nextToken_81 : decode cX9_nextToken 81 = .ok (.aload_n 0, 1) := by decide +kernel
theorem dX9_nextToken_82 : decode cX9_nextToken 82 = .ok (.iconst 0, 1) := by decide +kernel
theorem dX9_nextToken_83 : decode cX9_nextToken 83 = .ok (.putfield 154, 3) := by decide +kernel
theorem dX9_nextToken_86 : decode cX9_nextToken 86 = .ok (.return_, 1) := by decide +kernel
theorem dX9_nextToken_87 : decode cX9_nextToken 87 = .ok (.aload_n 0, 1) := by decide +kernel
theorem dX9_nextToken_88 : decode cX9_nextToken 88 = .ok (.getfield 7, 3) := by decide +kernel
theorem dX9_nextToken_91 : decode cX9_nextToken 91 = .ok (.aload_n 0, 1) := by decide +kernel
theorem dX9_nextToken_92 : decode cX9_nextToken 92 = .ok (.getfield 141, 3) := by decide +kernel
theorem dX9_nextToken_95 : decode cX9_nextToken 95 = .ok (.iaload, 1) := by decide +kernel
theorem dX9_nextToken_96 : decode cX9_nextToken 96 = .ok (.istore_n 1, 1) := by decide +kernel
theorem dX9_nextToken_97 : decode cX9_nextToken 97 = .ok (.iload_n 1, 1) := by decide +kernel
theorem dX9_nextToken_98 : decode cX9_nextToken 98 = .ok (.bipush 97, 2) := by decide +kernel
theorem dX9_nextToken_100 : decode cX9_nextToken 100 = .ok (.if_icmp .lt 112, 3) := by decide +kernel
theorem dX9_nextToken_103 : decode cX9_nextToken 103 = .ok (.iload_n 1, 1) := by decide +kernel
theorem dX9_nextToken_104 : decode cX9_nextToken 104 = .ok (.bipush 122, 2) := by decide +kernel
theorem dX9_nextToken_106 : decode cX9_nextToken 106 = .ok (.if_icmp .gt 106, 3) := by decide +kernel
theorem dX9_nextToken_109 : decode cX9_nextToken 109 = .ok (.aload_n 0, 1) := by decide +kernel
theorem dX9_nextToken_110 : decode cX9_nextToken 110 = .ok (.aload_n 0, 1) := by decide +kernel
theorem dX9_nextToken_111 : decode cX9_nextToken 111 = .ok (.getfield 141, 3) := by decide +kernel
theorem dX9_nextToken_114 : decode cX9_nextToken 114 = .ok (.invokevirtual 157, 3) := by decide +kernel
theorem dX9_nextToken_117 : decode cX9_nextToken 117 = .ok (.bipush 97, 2) := by decide +kernel
theorem dX9_nextToken_119 : decode cX9_nextToken 119 = .ok (.if_icmp .lt 69, 3) := by decide +kernel
theorem dX9_nextToken_122 : decode cX9_nextToken 122 = .ok (.aload_n 0, 1) := by decide +kernel
theorem dX9_nextToken_123 : decode cX9_nextToken 123 = .ok (.aload_n 0, 1) := by decide +kernel
theorem dX9_nextToken_124 : decode cX9_nextToken 124 = .ok (.getfield 141, 3) := by decide +kernel
theorem dX9_nextToken_127 : decode cX9_nextToken 127 = .ok (.invokevirtual 157, 3) := by decide +kernel
theorem dX9_nextToken_130 : decode cX9_nextToken 130 = .ok (.bipush 122, 2) := by decide +kernel
theorem dX9_nextToken_132 : decode cX9_nextToken 132 = .ok (.if_icmp .gt 56, 3) := by decide +kernel
theorem dX9_nextToken_135 : decode cX9_nextToken 135 = .ok (.aload_n 0, 1) := by decide +kernel
theorem dX9_nextToken_136 : decode cX9_nextToken 136 = .ok (.getfield 141, 3) := by decide +kernel
theorem dX9_nextToken_139 : decode cX9_nextToken 139 = .ok (.aload_n 0, 1) := by decide +kernel
theorem dX9_nextToken_140 : decode cX9_nextToken 140 = .ok (.getfield 144, 3) := by decide +kernel
theorem dX9_nextToken_143 : decode cX9_nextToken 143 = .ok (.isub, 1) := by decide +kernel
theorem dX9_nextToken_144 : decode cX9_nextToken 144 = .ok (.bipush 8, 2) := by decide +kernel
theorem dX9_nextToken_146 : decode cX9_nextToken 146 = .ok (.if_icmp .ge 29, 3) := by decide +kernel
theorem dX9_nextToken_149 : decode cX9_nextToken 149 = .ok (.aload_n 0, 1) := by decide +kernel
theorem dX9_nextToken_150 : decode cX9_nextToken 150 = .ok (.aload_n 0, 1) := by decide +kernel
theorem dX9_nextToken_151 : decode cX9_nextToken 151 = .ok (.getfield 147, 3) := by decide +kernel
theorem dX9_nextToken_154 : decode cX9_nextToken 154 = .ok (.ldc2_w 161, 3) := by decide +kernel
theorem dX9_nextToken_157 : decode cX9_nextToken 157 = .ok (.lmul, 1) := by decide +kernel
theorem dX9_nextToken_158 : decode cX9_nextToken 158 = .ok (.aload_n 0, 1) := by decide +kernel
theorem dX9_nextToken_159 : decode cX9_nextToken 159 = .ok (.aload_n 0, 1) := by decide +kernel
theorem dX9_nextToken_160 : decode cX9_nextToken 160 = .ok (.getfield 141, 3) := by decide +kernel
theorem dX9_nextToken_163 : decode cX9_nextToken 163 = .ok (.invokevirtual 157, 3) := by decide +kernel
theorem dX9_nextToken_166 : decode cX9_nextToken 166 = .ok (.i2l, 1) := by decide +kernel
theorem dX9_nextToken_167 : decode cX9_nextToken 167 = .ok (.ladd, 1) := by decide +kernel
theorem dX9_nextToken_168 : decode cX9_nextToken 168 = .ok (.ldc2_w 163, 3) := by decide +kernel
theorem dX9_nextToken_171 : decode cX9_nextToken 171 = .ok (.lsub, 1) := by decide +kernel
theorem dX9_nextToken_172 : decode cX9_nextToken 172 = .ok (.putfield 147, 3) := by decide +kernel
theorem dX9_nextToken_175 : decode cX9_nextToken 175 = .ok (.aload_n 0, 1) := by decide +kernel
theorem dX9_nextToken_176 : decode cX9_nextToken 176 = .ok (.dup, 1) := by decide +kernel
theorem dX9_nextToken_177 : decode cX9_nextToken 177 = .ok (.getfield 141, 3) := by decide +kernel
theorem dX9_nextToken_180 : decode cX9_nextToken 180 = .ok (.iconst 1, 1) := by decide +kernel
theorem dX9_nextToken_181 : decode cX9_nextToken 181 = .ok (.iadd, 1) := by decide +kernel
theorem dX9_nextToken_182 : decode cX9_nextToken 182 = .ok (.putfield 141, 3) := by decide +kernel
theorem dX9_nextToken_185 : decode cX9_nextToken 185 = .ok (.goto (-76), 3) := by decide +kernel
theorem dX9_nextToken_188 : decode cX9_nextToken 188 = .ok (.aload_n 0, 1) := by decide +kernel
theorem dX9_nextToken_189 : decode cX9_nextToken 189 = .ok (.aload_n 0, 1) := by decide +kernel
theorem dX9_nextToken_190 : decode cX9_nextToken 190 = .ok (.getfield 141, 3) := by decide +kernel
theorem dX9_nextToken_193 : decode cX9_nextToken 193 = .ok (.aload_n 0, 1) := by decide +kernel
theorem dX9_nextToken_194 : decode cX9_nextToken 194 = .ok (.getfield 144, 3) := by decide +kernel
theorem dX9_nextToken_197 : decode cX9_nextToken 197 = .ok (.isub, 1) := by decide +kernel
theorem dX9_nextToken_198 : decode cX9_nextToken 198 = .ok (.bipush 8, 2) := by decide +kernel
theorem dX9_nextToken_200 : decode cX9_nextToken 200 = .ok (.if_icmp .le 7, 3) := by decide +kernel
theorem dX9_nextToken_203 : decode cX9_nextToken 203 = .ok (.iconst 4, 1) := by decide +kernel
theorem dX9_nextToken_204 : decode cX9_nextToken 204 = .ok (.goto 4, 3) := by decide +kernel
theorem dX9_nextToken_207 : decode cX9_nextToken 207 = .ok (.iconst 1, 1) := by decide +kernel
theorem dX9_nextToken_208 : decode cX9_nextToken 208 = .ok (.putfield 154, 3) := by decide +kernel
theorem dX9_nextToken_211 : decode cX9_nextToken 211 = .ok (.return_, 1) := by decide +kernel
theorem dX9_nextToken_212 : decode cX9_nextToken 212 = .ok (.iload_n 1, 1) := by decide +kernel
theorem dX9_nextToken_213 : decode cX9_nextToken 213 = .ok (.bipush 48, 2) := by decide +kernel
theorem dX9_nextToken_215 : decode cX9_nextToken 215 = .ok (.if_icmp .lt 107, 3) := by decide +kernel
theorem dX9_nextToken_218 : decode cX9_nextToken 218 = .ok (.iload_n 1, 1) := by decide +kernel
theorem dX9_nextToken_219 : decode cX9_nextToken 219 = .ok (.bipush 57, 2) := by decide +kernel
theorem dX9_nextToken_221 : decode cX9_nextToken 221 = .ok (.if_icmp .gt 101, 3) := by decide +kernel
theorem dX9_nextToken_224 : decode cX9_nextToken 224 = .ok (.aload_n 0, 1) := by decide +kernel
theorem dX9_nextToken_225 : decode cX9_nextToken 225 = .ok (.aload_n 0, 1) := by decide +kernel
theorem dX9_nextToken_226 : decode cX9_nextToken 226 = .ok (.getfield 141, 3) := by decide +kernel
theorem dX9_nextToken_229 : decode cX9_nextToken 229 = .ok (.invokevirtual 157, 3) := by decide +kernel
theorem dX9_nextToken_232 : decode cX9_nextToken 232 = .ok (.bipush 48, 2) := by decide +kernel
theorem dX9_nextToken_234 : decode cX9_nextToken 234 = .ok (.if_icmp .lt 65, 3) := by decide +kernel
theorem dX9_nextToken_237 : decode cX9_nextToken 237 = .ok (.aload_n 0, 1) := by decide +kernel
theorem dX9_nextToken_238 : decode cX9_nextToken 238 = .ok (.aload_n 0, 1) := by decide +kernel
theorem dX9_nextToken_239 : decode cX9_nextToken 239 = .ok (.getfield 141, 3) := by decide +kernel
theorem dX9_nextToken_242 : decode cX9_nextToken 242 = .ok (.invokevirtual 157, 3) := by decide +kernel
theorem dX9_nextToken_245 : decode cX9_nextToken 245 = .ok (.bipush 57, 2) := by decide +kernel
theorem dX9_nextToken_247 : decode cX9_nextToken 247 = .ok (.if_icmp .gt 52, 3) := by decide +kernel
theorem dX9_nextToken_250 : decode cX9_nextToken 250 = .ok (.aload_n 0, 1) := by decide +kernel
theorem dX9_nextToken_251 : decode cX9_nextToken 251 = .ok (.getfield 141, 3) := by decide +kernel
theorem dX9_nextToken_254 : decode cX9_nextToken 254 = .ok (.aload_n 0, 1) := by decide +kernel
theorem dX9_nextToken_255 : decode cX9_nextToken 255 = .ok (.getfield 144, 3) := by decide +kernel
theorem dX9_nextToken_258 : decode cX9_nextToken 258 = .ok (.isub, 1) := by decide +kernel
theorem dX9_nextToken_259 : decode cX9_nextToken 259 = .ok (.iconst 4, 1) := by decide +kernel
theorem dX9_nextToken_260 : decode cX9_nextToken 260 = .ok (.if_icmp .ge 26, 3) := by decide +kernel
theorem dX9_nextToken_263 : decode cX9_nextToken 263 = .ok (.aload_n 0, 1) := by decide +kernel
theorem dX9_nextToken_264 : decode cX9_nextToken 264 = .ok (.aload_n 0, 1) := by decide +kernel
theorem dX9_nextToken_265 : decode cX9_nextToken 265 = .ok (.getfield 151, 3) := by decide +kernel
theorem dX9_nextToken_268 : decode cX9_nextToken 268 = .ok (.bipush 10, 2) := by decide +kernel
theorem dX9_nextToken_270 : decode cX9_nextToken 270 = .ok (.imul, 1) := by decide +kernel
theorem dX9_nextToken_271 : decode cX9_nextToken 271 = .ok (.aload_n 0, 1) := by decide +kernel
theorem dX9_nextToken_272 : decode cX9_nextToken 272 = .ok (.aload_n 0, 1) := by decide +kernel
theorem dX9_nextToken_273 : decode cX9_nextToken 273 = .ok (.getfield 141, 3) := by decide +kernel
theorem dX9_nextToken_276 : decode cX9_nextToken 276 = .ok (.invokevirtual 157, 3) := by decide +kernel
theorem dX9_nextToken_279 : decode cX9_nextToken 279 = .ok (.iadd, 1) := by decide +kernel
theorem dX9_nextToken_280 : decode cX9_nextToken 280 = .ok (.bipush 48, 2) := by decide +kernel
theorem dX9_nextToken_282 : decode cX9_nextToken 282 = .ok (.isub, 1) := by decide +kernel
theorem dX9_nextToken_283 : decode cX9_nextToken 283 = .ok (.putfield 151, 3) := by decide +kernel
theorem dX9_nextToken_286 : decode cX9_nextToken 286 = .ok (.aload_n 0, 1) := by decide +kernel
theorem dX9_nextToken_287 : decode cX9_nextToken 287 = .ok (.dup, 1) := by decide +kernel
theorem dX9_nextToken_288 : decode cX9_nextToken 288 = .ok (.getfield 141, 3) := by decide +kernel
theorem dX9_nextToken_291 : decode cX9_nextToken 291 = .ok (.iconst 1, 1) := by decide +kernel
theorem dX9_nextToken_292 : decode cX9_nextToken 292 = .ok (.iadd, 1) := by decide +kernel
theorem dX9_nextToken_293 : decode cX9_nextToken 293 = .ok (.putfield 141, 3) := by decide +kernel
theorem dX9_nextToken_296 : decode cX9_nextToken 296 = .ok (.goto (-72), 3) := by decide +kernel
theorem dX9_nextToken_299 : decode cX9_nextToken 299 = .ok (.aload_n 0, 1) := by decide +kernel
theorem dX9_nextToken_300 : decode cX9_nextToken 300 = .ok (.aload_n 0, 1) := by decide +kernel
theorem dX9_nextToken_301 : decode cX9_nextToken 301 = .ok (.getfield 141, 3) := by decide +kernel
theorem dX9_nextToken_304 : decode cX9_nextToken 304 = .ok (.aload_n 0, 1) := by decide +kernel
theorem dX9_nextToken_305 : decode cX9_nextToken 305 = .ok (.getfield 144, 3) := by decide +kernel
theorem dX9_nextToken_308 : decode cX9_nextToken 308 = .ok (.isub, 1) := by decide +kernel
theorem dX9_nextToken_309 : decode cX9_nextToken 309 = .ok (.iconst 4, 1) := by decide +kernel
theorem dX9_nextToken_310 : decode cX9_nextToken 310 = .ok (.if_icmp .le 7, 3) := by decide +kernel
theorem dX9_nextToken_313 : decode cX9_nextToken 313 = .ok (.iconst 4, 1) := by decide +kernel
theorem dX9_nextToken_314 : decode cX9_nextToken 314 = .ok (.goto 4, 3) := by decide +kernel
theorem dX9_nextToken_317 : decode cX9_nextToken 317 = .ok (.iconst 2, 1) := by decide +kernel
theorem dX9_nextToken_318 : decode cX9_nextToken 318 = .ok (.putfield 154, 3) := by decide +kernel
theorem dX9_nextToken_321 : decode cX9_nextToken 321 = .ok (.return_, 1) := by decide +kernel
theorem dX9_nextToken_322 : decode cX9_nextToken 322 = .ok (.aload_n 0, 1) := by decide +kernel
theorem dX9_nextToken_323 : decode cX9_nextToken 323 = .ok (.dup, 1) := by decide +kernel
theorem dX9_nextToken_324 : decode cX9_nextToken 324 = .ok (.getfield 141, 3) := by decide +kernel
theorem dX9_nextToken_327 : decode cX9_nextToken 327 = .ok (.iconst 1, 1) := by decide +kernel
theorem dX9_nextToken_328 : decode cX9_nextToken 328 = .ok (.iadd, 1) := by decide +kernel
theorem dX9_nextToken_329 : decode cX9_nextToken 329 = .ok (.putfield 141, 3) := by decide +kernel
theorem dX9_nextToken_332 : decode cX9_nextToken 332 = .ok (.aload_n 0, 1) := by decide +kernel
theorem dX9_nextToken_333 : decode cX9_nextToken 333 = .ok (.iload_n 1, 1) := by decide +kernel
theorem dX9_nextToken_334 : decode cX9_nextToken 334 = .ok (.bipush 40, 2) := by decide +kernel
theorem dX9_nextToken_336 : decode cX9_nextToken 336 = .ok (.if_icmp .lt 9, 3) := by decide +kernel
theorem dX9_nextToken_339 : decode cX9_nextToken 339 = .ok (.iload_n 1, 1) := by decide +kernel
theorem dX9_nextToken_340 : decode cX9_nextToken 340 = .ok (.bipush 43, 2) := by decide +kernel
theorem dX9_nextToken_342 : decode cX9_nextToken 342 = .ok (.if_icmp .le 21, 3) := by decide +kernel
theorem dX9_nextToken_345 : decode cX9_nextToken 345 = .ok (.iload_n 1, 1) := by decide +kernel
theorem dX9_nextToken_346 : decode cX9_nextToken 346 = .ok (.bipush 45, 2) := by decide +kernel
theorem dX9_nextToken_348 : decode cX9_nextToken 348 = .ok (.if_icmp .eq 15, 3) := by decide +kernel
theorem dX9_nextToken_351 : decode cX9_nextToken 351 = .ok (.iload_n 1, 1) := by decide +kernel
theorem dX9_nextToken_352 : decode cX9_nextToken 352 = .ok (.bipush 59, 2) := by decide +kernel
theorem dX9_nextToken_354 : decode cX9_nextToken 354 = .ok (.if_icmp .lt 13, 3) := by decide +kernel
theorem dX9_nextToken_357 : decode cX9_nextToken 357 = .ok (.iload_n 1, 1) := by decide +kernel
theorem dX9_nextToken_358 : decode cX9_nextToken 358 = .ok (.bipush 61, 2) := by decide +kernel
theorem dX9_nextToken_360 : decode cX9_nextToken 360 = .ok (.if_icmp .gt 7, 3) := by decide +kernel
theorem dX9_nextToken_363 : decode cX9_nextToken 363 = .ok (.iconst 3, 1) := by decide +kernel
theorem dX9_nextToken_364 : decode cX9_nextToken 364 = .ok (.goto 4, 3) := by decide +kernel
theorem dX9_nextToken_367 : decode cX9_nextToken 367 = .ok (.iconst 4, 1) := by decide +kernel
theorem dX9_nextToken_368 : decode cX9_nextToken 368 = .ok (.putfield 154, 3) := by decide +kernel
theorem dX9_nextToken_371 : decode cX9_nextToken 371 = .ok (.return_, 1) := by decide +kernel
theorem dX9_isWord_0 : decode cX9_isWord 0 = .ok (.aload_n 0, 1) := by decide +kernel
theorem dX9_isWord_1 : decode cX9_isWord 1 = .ok (.getfield 154, 3) := by decide +kernel
theorem dX9_isWord_4 : decode cX9_isWord 4 = .ok (.iconst 1, 1) := by decide +kernel
theorem dX9_isWord_5 : decode cX9_isWord 5 = .ok (.if_icmp .ne 16, 3) := by decide +kernel
theorem dX9_isWord_8 : decode cX9_isWord 8 = .ok (.aload_n 0, 1) := by decide +kernel
theorem dX9_isWord_9 : decode cX9_isWord 9 = .ok (.getfield 147, 3) := by decide +kernel
theorem dX9_isWord_12 : decode cX9_isWord 12 = .ok (.lload_n 1, 1) := by decide +kernel
theorem dX9_isWord_13 : decode cX9_isWord 13 = .ok (.lcmp, 1) := by decide +kernel
theorem dX9_isWord_14 : decode cX9_isWord 14 = .ok (.ifCond .ne 7, 3) := by decide +kernel
theorem dX9_isWord_17 : decode cX9_isWord 17 = .ok (.iconst 1, 1) := by decide +kernel
theorem dX9_isWord_18 : decode cX9_isWord 18 = .ok (.goto 4, 3) := by decide +kernel
theorem dX9_isWord_21 : decode cX9_isWord 21 = .ok (.iconst 0, 1) := by decide +kernel
theorem dX9_isWord_22 : decode cX9_isWord 22 = .ok (.ireturn, 1) := by decide +kernel
theorem dX9_isSign_0 : decode cX9_isSign 0 = .ok (.aload_n 0, 1) := by decide +kernel
theorem dX9_isSign_1 : decode cX9_isSign 1 = .ok (.getfield 154, 3) := by decide +kernel
theorem dX9_isSign_4 : decode cX9_isSign 4 = .ok (.iconst 3, 1) := by decide +kernel
theorem dX9_isSign_5 : decode cX9_isSign 5 = .ok (.if_icmp .ne 20, 3) := by decide +kernel
theorem dX9_isSign_8 : decode cX9_isSign 8 = .ok (.aload_n 0, 1) := by decide +kernel
theorem dX9_isSign_9 : decode cX9_isSign 9 = .ok (.getfield 7, 3) := by decide +kernel
theorem dX9_isSign_12 : decode cX9_isSign 12 = .ok (.aload_n 0, 1) := by decide +kernel
theorem dX9_isSign_13 : decode cX9_isSign 13 = .ok (.getfield 144, 3) := by decide +kernel
theorem dX9_isSign_16 : decode cX9_isSign 16 = .ok (.iaload, 1) := by decide +kernel
theorem dX9_isSign_17 : decode cX9_isSign 17 = .ok (.iload_n 1, 1) := by decide +kernel
theorem dX9_isSign_18 : decode cX9_isSign 18 = .ok (.if_icmp .ne 7, 3) := by decide +kernel
theorem dX9_isSign_21 : decode cX9_isSign 21 = .ok (.iconst 1, 1) := by decide +kernel
theorem dX9_isSign_22 : decode cX9_isSign 22 = .ok (.goto 4, 3) := by decide +kernel
theorem dX9_isSign_25 : decode cX9_isSign 25 = .ok (.iconst 0, 1) := by decide +kernel
theorem dX9_isSign_26 : decode cX9_isSign 26 = .ok (.ireturn, 1) := by decide +kernel
theorem dX9_fails_0 : decode cX9_fails 0 = .ok (.aload_n 0, 1) := by decide +kernel
theorem dX9_fails_1 : decode cX9_fails 1 = .ok (.iload_n 1, 1) := by decide +kernel
theorem dX9_fails_2 : decode cX9_fails 2 = .ok (.bipush 16, 2) := by decide +kernel
theorem dX9_fails_4 : decode cX9_fails 4 = .ok (.aload_n 0, 1) := by decide +kernel
theorem dX9_fails_5 : decode cX9_fails 5 = .ok (.getfield 144, 3) := by decide +kernel
theorem dX9_fails_8 : decode cX9_fails 8 = .ok (.imul, 1) := by decide +kernel
theorem dX9_fails_9 : decode cX9_fails 9 = .ok (.iadd, 1) := by decide +kernel
theorem dX9_fails_10 : decode cX9_fails 10 = .ok (.putfield 165, 3) := by decide +kernel
theorem dX9_fails_13 : decode cX9_fails 13 = .ok (.iconst 0, 1) := by decide +kernel
theorem dX9_fails_14 : decode cX9_fails 14 = .ok (.ireturn, 1) := by decide +kernel
theorem dX9_puts_0 : decode cX9_puts 0 = .ok (.aload_n 0, 1) := by decide +kernel
theorem dX9_puts_1 : decode cX9_puts 1 = .ok (.getfield 38, 3) := by decide +kernel
theorem dX9_puts_4 : decode cX9_puts 4 = .ok (.aload_n 0, 1) := by decide +kernel
theorem dX9_puts_5 : decode cX9_puts 5 = .ok (.getfield 168, 3) := by decide +kernel
theorem dX9_puts_8 : decode cX9_puts 8 = .ok (.iload_n 1, 1) := by decide +kernel
theorem dX9_puts_9 : decode cX9_puts 9 = .ok (.iastore, 1) := by decide +kernel
theorem dX9_puts_10 : decode cX9_puts 10 = .ok (.aload_n 0, 1) := by decide +kernel
theorem dX9_puts_11 : decode cX9_puts 11 = .ok (.dup, 1) := by decide +kernel
theorem dX9_puts_12 : decode cX9_puts 12 = .ok (.getfield 168, 3) := by decide +kernel
theorem dX9_puts_15 : decode cX9_puts 15 = .ok (.iconst 1, 1) := by decide +kernel
theorem dX9_puts_16 : decode cX9_puts 16 = .ok (.iadd, 1) := by decide +kernel
theorem dX9_puts_17 : decode cX9_puts 17 = .ok (.putfield 168, 3) := by decide +kernel
theorem dX9_puts_20 : decode cX9_puts 20 = .ok (.return_, 1) := by decide +kernel
theorem dX9_fact_0 : decode cX9_fact 0 = .ok (.aload_n 0, 1) := by decide +kernel
theorem dX9_fact_1 : decode cX9_fact 1 = .ok (.getfield 154, 3) := by decide +kernel
theorem dX9_fact_4 : decode cX9_fact 4 = .ok (.iconst 1, 1) := by decide +kernel
theorem dX9_fact_5 : decode cX9_fact 5 = .ok (.if_icmp .eq 5, 3) := by decide +kernel
theorem dX9_fact_8 : decode cX9_fact 8 = .ok (.iconst 0, 1) := by decide +kernel
theorem dX9_fact_9 : decode cX9_fact 9 = .ok (.ireturn, 1) := by decide +kernel
theorem dX9_fact_10 : decode cX9_fact 10 = .ok (.aload_n 0, 1) := by decide +kernel
theorem dX9_fact_11 : decode cX9_fact 11 = .ok (.getfield 147, 3) := by decide +kernel
theorem dX9_fact_14 : decode cX9_fact 14 = .ok (.ldc2_w 171, 3) := by decide +kernel
theorem dX9_fact_17 : decode cX9_fact 17 = .ok (.lcmp, 1) := by decide +kernel
theorem dX9_fact_18 : decode cX9_fact 18 = .ok (.ifCond .ne 5, 3) := by decide +kernel
theorem dX9_fact_21 : decode cX9_fact 21 = .ok (.iconst 1, 1) := by decide +kernel
theorem dX9_fact_22 : decode cX9_fact 22 = .ok (.ireturn, 1) := by decide +kernel
theorem dX9_fact_23 : decode cX9_fact 23 = .ok (.aload_n 0, 1) := by decide +kernel
theorem dX9_fact_24 : decode cX9_fact 24 = .ok (.getfield 147, 3) := by decide +kernel
theorem dX9_fact_27 : decode cX9_fact 27 = .ok (.ldc2_w 173, 3) := by decide +kernel
theorem dX9_fact_30 : decode cX9_fact 30 = .ok (.lcmp, 1) := by decide +kernel
theorem dX9_fact_31 : decode cX9_fact 31 = .ok (.ifCond .ne 5, 3) := by decide +kernel
theorem dX9_fact_34 : decode cX9_fact 34 = .ok (.iconst 2, 1) := by decide +kernel
theorem dX9_fact_35 : decode cX9_fact 35 = .ok (.ireturn, 1) := by decide +kernel
theorem dX9_fact_36 : decode cX9_fact 36 = .ok (.aload_n 0, 1) := by decide +kernel
theorem dX9_fact_37 : decode cX9_fact 37 = .ok (.getfield 147, 3) := by decide +kernel
theorem dX9_fact_40 : decode cX9_fact 40 = .ok (.ldc2_w 175, 3) := by decide +kernel
theorem dX9_fact_43 : decode cX9_fact 43 = .ok (.lcmp, 1) := by decide +kernel
theorem dX9_fact_44 : decode cX9_fact 44 = .ok (.ifCond .ne 7, 3) := by decide +kernel
theorem dX9_fact_47 : decode cX9_fact 47 = .ok (.iconst 3, 1) := by decide +kernel
theorem dX9_fact_48 : decode cX9_fact 48 = .ok (.goto 19, 3) := by decide +kernel
theorem dX9_fact_51 : decode cX9_fact 51 = .ok (.aload_n 0, 1) := by decide +kernel
theorem dX9_fact_52 : decode cX9_fact 52 = .ok (.getfield 147, 3) := by decide +kernel
theorem dX9_fact_55 : decode cX9_fact 55 = .ok (.ldc2_w 177, 3) := by decide +kernel
theorem dX9_fact_58 : decode cX9_fact 58 = .ok (.lcmp, 1) := by decide +kernel
theorem dX9_fact_59 : decode cX9_fact 59 = .ok (.ifCond .ne 7, 3) := by decide +kernel
theorem dX9_fact_62 : decode cX9_fact 62 = .ok (.iconst 4, 1) := by decide +kernel
theorem dX9_fact_63 : decode cX9_fact 63 = .ok (.goto 4, 3) := by decide +kernel
theorem dX9_fact_66 : decode cX9_fact 66 = .ok (.iconst 0, 1) := by decide +kernel
theorem dX9_fact_67 : decode cX9_fact 67 = .ok (.ireturn, 1) := by decide +kernel
theorem dX9_reads_0 : decode cX9_reads 0 = .ok (.iconst 0, 1) := by decide +kernel
theorem dX9_reads_1 : decode cX9_reads 1 = .ok (.istore_n 1, 1) := by decide +kernel
theorem dX9_reads_2 : decode cX9_reads 2 = .ok (.iconst 1, 1) := by decide +kernel
theorem dX9_reads_3 : decode cX9_reads 3 = .ok (.istore_n 2, 1) := by decide +kernel
theorem dX9_reads_4 : decode cX9_reads 4 = .ok (.aload_n 0, 1) := by decide +kernel
theorem dX9_reads_5 : decode cX9_reads 5 = .ok (.getfield 44, 3) := by decide +kernel
theorem dX9_reads_8 : decode cX9_reads 8 = .ok (.iconst 0, 1) := by decide +kernel
theorem dX9_reads_9 : decode cX9_reads 9 = .ok (.iconst 0, 1) := by decide +kernel
theorem dX9_reads_10 : decode cX9_reads 10 = .ok (.bastore, 1) := by decide +kernel
theorem dX9_reads_11 : decode cX9_reads 11 = .ok (.iload_n 2, 1) := by decide +kernel
theorem dX9_reads_12 : decode cX9_reads 12 = .ok (.ifCond .eq 167, 3) := by decide +kernel
theorem dX9_reads_15 : decode cX9_reads 15 = .ok (.aload_n 0, 1) := by decide +kernel
theorem dX9_reads_16 : decode cX9_reads 16 = .ok (.invokevirtual 179, 3) := by decide +kernel
theorem dX9_reads_19 : decode cX9_reads 19 = .ok (.istore_n 3, 1) := by decide +kernel
theorem dX9_reads_20 : decode cX9_reads 20 = .ok (.aload_n 0, 1) := by decide +kernel
theorem dX9_reads_21 : decode cX9_reads 21 = .ok (.ldc2_w 183, 3) := by decide +kernel
theorem dX9_reads_24 : decode cX9_reads 24 = .ok (.invokevirtual 185, 3) := by decide +kernel
theorem dX9_reads_27 : decode cX9_reads 27 = .ok (.istore 4, 2) := by decide +kernel
theorem dX9_reads_29 : decode cX9_reads 29 = .ok (.aload_n 0, 1) := by decide +kernel
theorem dX9_reads_30 : decode cX9_reads 30 = .ok (.bipush 40, 2) := by decide +kernel
theorem dX9_reads_32 : decode cX9_reads 32 = .ok (.invokevirtual 189, 3) := by decide +kernel
theorem dX9_reads_35 : decode cX9_reads 35 = .ok (.istore 5, 2) := by decide +kernel
theorem dX9_reads_37 : decode cX9_reads 37 = .ok (.iload_n 3, 1) := by decide +kernel
theorem dX9_reads_38 : decode cX9_reads 38 = .ok (.ifCond .ne 27, 3) := by decide +kernel
theorem dX9_reads_41 : decode cX9_reads 41 = .ok (.iload 4, 2) := by decide +kernel
theorem dX9_reads_43 : decode cX9_reads 43 = .ok (.ifCond .ne 22, 3) := by decide +kernel
theorem dX9_reads_46 : decode cX9_reads 46 = .ok (.iload 5, 2) := by decide +kernel
theorem dX9_reads_48 : decode cX9_reads 48 = .ok (.ifCond .ne 17, 3) := by decide +kernel
theorem dX9_reads_51 : decode cX9_reads 51 = .ok (.aload_n 0, 1) := by decide +kernel
theorem dX9_reads_52 : decode cX9_reads 52 = .ok (.getfield 154, 3) := by decide +kernel
theorem dX9_reads_55 : decode cX9_reads 55 = .ok (.iconst 2, 1) := by decide +kernel
theorem dX9_reads_56 : decode cX9_reads 56 = .ok (.if_icmp .eq 9, 3) := by decide +kernel
theorem dX9_reads_59 : decode cX9_reads 59 = .ok (.aload_n 0, 1) := by decide +kernel
theorem dX9_reads_60 : decode cX9_reads 60 = .ok (.iconst 1, 1) := by decide +kernel
theorem dX9_reads_61 : decode cX9_reads 61 = .ok (.invokevirtual 193, 3) := by decide +kernel
theorem dX9_reads_64 : decode cX9_reads 64 = .ok (.ireturn, 1) := by decide +kernel
theorem dX9_reads_65 : decode cX9_reads 65 = .ok (.iload_n 1, 1) := by decide +kernel
theorem dX9_reads_66 : decode cX9_reads 66 = .ok (.iconst 5, 1) := by decide +kernel
theorem dX9_reads_67 : decode cX9_reads 67 = .ok (.if_icmp .ne 9, 3) := by decide +kernel
theorem dX9_reads_70 : decode cX9_reads 70 = .ok (.aload_n 0, 1) := by decide +kernel
theorem dX9_reads_71 : decode cX9_reads 71 = .ok (.iconst 5, 1) := by decide +kernel
theorem dX9_reads_72 : decode cX9_reads 72 = .ok (.invokevirtual 193, 3) := by decide +kernel
theorem dX9_reads_75 : decode cX9_reads 75 = .ok (.ireturn, 1) := by decide +kernel
theorem dX9_reads_76 : decode cX9_reads 76 = .ok (.iload 4, 2) := by decide +kernel
theorem dX9_reads_78 : decode cX9_reads 78 = .ok (.ifCond .ne 8, 3) := by decide +kernel
theorem dX9_reads_81 : decode cX9_reads 81 = .ok (.iload 5, 2) := by decide +kernel
theorem dX9_reads_83 : decode cX9_reads 83 = .ok (.ifCond .eq 48, 3) := by decide +kernel
theorem dX9_reads_86 : decode cX9_reads 86 = .ok (.aload_n 0, 1) := by decide +kernel
theorem dX9_reads_87 : decode cX9_reads 87 = .ok (.iload 4, 2) := by decide +kernel
theorem dX9_reads_89 : decode cX9_reads 89 = .ok (.ifCond .eq 8, 3) := by decide +kernel
theorem dX9_reads_92 : decode cX9_reads 92 = .ok (.bipush 30, 2) := by decide +kernel
theorem dX9_reads_94 : decode cX9_reads 94 = .ok (.goto 5, 3) := by decide +kernel
theorem dX9_reads_97 : decode cX9_reads 97 = .ok (.bipush 28, 2) := by decide +kernel
theorem dX9_reads_99 : decode cX9_reads 99 = .ok (.invokevirtual 196, 3) := by decide +kernel
theorem dX9_reads_102 : decode cX9_reads 102 = .ok (.iinc 1 1, 3) := by decide +kernel
theorem dX9_reads_105 : decode cX9_reads 105 = .ok (.aload_n 0, 1) := by decide +kernel
theorem dX9_reads_106 : decode cX9_reads 106 = .ok (.getfield 41, 3) := by decide +kernel
theorem dX9_reads_109 : decode cX9_reads 109 = .ok (.iload_n 1, 1) := by decide +kernel
theorem dX9_reads_110 : decode cX9_reads 110 = .ok (.iload 4, 2) := by decide +kernel
theorem dX9_reads_112 : decode cX9_reads 112 = .ok (.ifCond .eq 7, 3) := by decide +kernel
theorem dX9_reads_115 : decode cX9_reads 115 = .ok (.iconst 1, 1) := by decide +kernel
theorem dX9_reads_116 : decode cX9_reads 116 = .ok (.goto 4, 3) := by decide +kernel
theorem dX9_reads_119 : decode cX9_reads 119 = .ok (.iconst 2, 1) := by decide +kernel
theorem dX9_reads_120 : decode cX9_reads 120 = .ok (.iastore, 1) := by decide +kernel
theorem dX9_reads_121 : decode cX9_reads 121 = .ok (.aload_n 0, 1) := by decide +kernel
theorem dX9_reads_122 : decode cX9_reads 122 = .ok (.getfield 44, 3) := by decide +kernel
theorem dX9_reads_125 : decode cX9_reads 125 = .ok (.iload_n 1, 1) := by decide +kernel
theorem dX9_reads_126 : decode cX9_reads 126 = .ok (.iconst 0, 1) := by decide +kernel
theorem dX9_reads_127 : decode cX9_reads 127 = .ok (.bastore, 1) := by decide +kernel
theorem dX9_reads_128 : decode cX9_reads 128 = .ok (.goto 44, 3) := by decide +kernel
theorem dX9_reads_131 : decode cX9_reads 131 = .ok (.aload_n 0, 1) := by decide +kernel
theorem dX9_reads_132 : decode cX9_reads 132 = .ok (.iload_n 3, 1) := by decide +kernel
theorem dX9_reads_133 : decode cX9_reads 133 = .ok (.ifCond .le 7, 3) := by decide +kernel
theorem dX9_reads_136 : decode cX9_reads 136 = .ok (.iload_n 3, 1) := by decide +kernel
theorem dX9_reads_137 : decode cX9_reads 137 = .ok (.goto 10, 3) := by decide +kernel
theorem dX9_reads_140 : decode cX9_reads 140 = .ok (.bipush 100, 2) := by decide +kernel
theorem dX9_reads_142 : decode cX9_reads 142 = .ok (.aload_n 0, 1) := by decide +kernel
theorem dX9_reads_143 : decode cX9_reads 143 = .ok (.getfield 151, 3) := by decide +kernel
theorem dX9_reads_146 : decode cX9_reads 146 = .ok (.iadd, 1) := by decide +kernel
theorem dX9_reads_147 : decode cX9_reads 147 = .ok (.invokevirtual 196, 3) := by decide +kernel
theorem dX9_reads_150 : decode cX9_reads 150 = .ok (.iconst 0, 1) := by decide +kernel
theorem dX9_reads_151 : decode cX9_reads 151 = .ok (.istore_n 2, 1) := by decide +kernel
theorem dX9_reads_152 : decode cX9_reads 152 = .ok (.iload_n 1, 1) := by decide +kernel
theorem dX9_reads_153 : decode cX9_reads 153 = .ok (.ifCond .le 19, 3) := by decide +kernel
theorem dX9_reads_156 : decode cX9_reads 156 = .ok (.aload_n 0, 1) := by decide +kernel
theorem dX9_reads_157 : decode cX9_reads 157 = .ok (.getfield 41, 3) := by decide +kernel
theorem dX9_reads_160 : decode cX9_reads 160 = .ok (.iload_n 1, 1) := by decide +kernel
theorem dX9_reads_161 : decode cX9_reads 161 = .ok (.iaload, 1) := by decide +kernel
theorem dX9_reads_162 : decode cX9_reads 162 = .ok (.iconst 1, 1) := by decide +kernel
theorem dX9_reads_163 : decode cX9_reads 163 = .ok (.if_icmp .ne 9, 3) := by decide +kernel
theorem dX9_reads_166 : decode cX9_reads 166 = .ok (.iinc 1 (-1), 3) := by decide +kernel
theorem dX9_reads_169 : decode cX9_reads 169 = .ok (.goto (-17), 3) := by decide +kernel
theorem dX9_reads_172 : decode cX9_reads 172 = .ok (.aload_n 0, 1) := by decide +kernel
theorem dX9_reads_173 : decode cX9_reads 173 = .ok (.invokevirtual 200, 3) := by decide +kernel
theorem dX9_reads_176 : decode cX9_reads 176 = .ok (.goto (-165), 3) := by decide +kernel
theorem dX9_reads_179 : decode cX9_reads 179 = .ok (.aload_n 0, 1) := by decide +kernel
theorem dX9_reads_180 : decode cX9_reads 180 = .ok (.bipush 43, 2) := by decide +kernel
theorem dX9_reads_182 : decode cX9_reads 182 = .ok (.invokevirtual 189, 3) := by decide +kernel
theorem dX9_reads_185 : decode cX9_reads 185 = .ok (.ifCond .ne 21, 3) := by decide +kernel
theorem dX9_reads_188 : decode cX9_reads 188 = .ok (.aload_n 0, 1) := by decide +kernel
theorem dX9_reads_189 : decode cX9_reads 189 = .ok (.bipush 45, 2) := by decide +kernel
theorem dX9_reads_191 : decode cX9_reads 191 = .ok (.invokevirtual 189, 3) := by decide +kernel
theorem dX9_reads_194 : decode cX9_reads 194 = .ok (.ifCond .ne 12, 3) := by decide +kernel
theorem dX9_reads_197 : decode cX9_reads 197 = .ok (.aload_n 0, 1) := by decide +kernel
theorem dX9_reads_198 : decode cX9_reads 198 = .ok (.bipush 42, 2) := by decide +kernel
theorem dX9_reads_200 : decode cX9_reads 200 = .ok (.invokevirtual 189, 3) := by decide +kernel
theorem dX9_reads_203 : decode cX9_reads 203 = .ok (.ifCond .eq 42, 3) := by decide +kernel
theorem dX9_reads_206 : decode cX9_reads 206 = .ok (.aload_n 0, 1) := by decide +kernel
theorem dX9_reads_207 : decode cX9_reads 207 = .ok (.aload_n 0, 1) := by decide +kernel
theorem dX9_reads_208 : decode cX9_reads 208 = .ok (.bipush 43, 2) := by decide +kernel
theorem dX9_reads_210 : decode cX9_reads 210 = .ok (.invokevirtual 189, 3) := by decide +kernel
theorem dX9_reads_213 : decode cX9_reads 213 = .ok (.ifCond .eq 8, 3) := by decide +kernel
theorem dX9_reads_216 : decode cX9_reads 216 = .ok (.bipush 20, 2) := by decide +kernel
theorem dX9_reads_218 : decode cX9_reads 218 = .ok (.goto 19, 3) := by decide +kernel
theorem dX9_reads_221 : decode cX9_reads 221 = .ok (.aload_n 0, 1) := by decide +kernel
theorem dX9_reads_222 : decode cX9_reads 222 = .ok (.bipush 45, 2) := by decide +kernel
theorem dX9_reads_224 : decode cX9_reads 224 = .ok (.invokevirtual 189, 3) := by decide +kernel
theorem dX9_reads_227 : decode cX9_reads 227 = .ok (.ifCond .eq 8, 3) := by decide +kernel
theorem dX9_reads_230 : decode cX9_reads 230 = .ok (.bipush 21, 2) := by decide +kernel
theorem dX9_reads_232 : decode cX9_reads 232 = .ok (.goto 5, 3) := by decide +kernel
theorem dX9_reads_235 : decode cX9_reads 235 = .ok (.bipush 22, 2) := by decide +kernel
theorem dX9_reads_237 : decode cX9_reads 237 = .ok (.invokevirtual 196, 3) := by decide +kernel
theorem dX9_reads_240 : decode cX9_reads 240 = .ok (.iconst 1, 1) := by decide +kernel
theorem dX9_reads_241 : decode cX9_reads 241 = .ok (.istore_n 2, 1) := by decide +kernel
theorem dX9_reads_242 : decode cX9_reads 242 = .ok (.goto 182, 3) := by decide +kernel
theorem dX9_reads_245 : decode cX9_reads 245 = .ok (.aload_n 0, 1) := by decide +kernel
theorem dX9_reads_246 : decode cX9_reads 246 = .ok (.bipush 60, 2) := by decide +kernel
theorem dX9_reads_248 : decode cX9_reads 248 = .ok (.invokevirtual 189, 3) := by decide +kernel
theorem dX9_reads_251 : decode cX9_reads 251 = .ok (.ifCond .ne 12, 3) := by decide +kernel
theorem dX9_reads_254 : decode cX9_reads 254 = .ok (.aload_n 0, 1) := by decide +kernel
theorem dX9_reads_255 : decode cX9_reads 255 = .ok (.bipush 61, 2) := by decide +kernel
theorem dX9_reads_257 : decode cX9_reads 257 = .ok (.invokevirtual 189, 3) := by decide +kernel
theorem dX9_reads_260 : decode cX9_reads 260 = .ok (.ifCond .eq 44, 3) := by decide +kernel
theorem dX9_reads_263 : decode cX9_reads 263 = .ok (.aload_n 0, 1) := by decide +kernel
theorem dX9_reads_264 : decode cX9_reads 264 = .ok (.getfield 44, 3) := by decide +kernel
theorem dX9_reads_267 : decode cX9_reads 267 = .ok (.iload_n 1, 1) := by decide +kernel
theorem dX9_reads_268 : decode cX9_reads 268 = .ok (.baload, 1) := by decide +kernel
theorem dX9_reads_269 : decode cX9_reads 269 = .ok (.ifCond .ne 35, 3) := by decide +kernel
theorem dX9_reads_272 : decode cX9_reads 272 = .ok (.aload_n 0, 1) := by decide +kernel
theorem dX9_reads_273 : decode cX9_reads 273 = .ok (.aload_n 0, 1) := by decide +kernel
theorem dX9_reads_274 : decode cX9_reads 274 = .ok (.bipush 60, 2) := by decide +kernel
theorem dX9_reads_276 : decode cX9_reads 276 = .ok (.invokevirtual 189, 3) := by decide +kernel
theorem dX9_reads_279 : decode cX9_reads 279 = .ok (.ifCond .eq 8, 3) := by decide +kernel
theorem dX9_reads_282 : decode cX9_reads 282 = .ok (.bipush 24, 2) := by decide +kernel
theorem dX9_reads_284 : decode cX9_reads 284 = .ok (.goto 5, 3) := by decide +kernel
theorem dX9_reads_287 : decode cX9_reads 287 = .ok (.bipush 25, 2) := by decide +kernel
theorem dX9_reads_289 : decode cX9_reads 289 = .ok (.invokevirtual 196, 3) := by decide +kernel
theorem dX9_reads_292 : decode cX9_reads 292 = .ok (.aload_n 0, 1) := by decide +kernel
theorem dX9_reads_293 : decode cX9_reads 293 = .ok (.getfield 44, 3) := by decide +kernel
theorem dX9_reads_296 : decode cX9_reads 296 = .ok (.iload_n 1, 1) := by decide +kernel
theorem dX9_reads_297 : decode cX9_reads 297 = .ok (.iconst 1, 1) := by decide +kernel
theorem dX9_reads_298 : decode cX9_reads 298 = .ok (.bastore, 1) := by decide +kernel
theorem dX9_reads_299 : decode cX9_reads 299 = .ok (.iconst 1, 1) := by decide +kernel
theorem dX9_reads_300 : decode cX9_reads 300 = .ok (.istore_n 2, 1) := by decide +kernel
theorem dX9_reads_301 : decode cX9_reads 301 = .ok (.goto 123, 3) := by decide +kernel
theorem dX9_reads_304 : decode cX9_reads 304 = .ok (.aload_n 0, 1) := by decide +kernel
theorem dX9_reads_305 : decode cX9_reads 305 = .ok (.ldc2_w 203, 3) := by decide +kernel
theorem dX9_reads_308 : decode cX9_reads 308 = .ok (.invokevirtual 185, 3) := by decide +kernel
theorem dX9_reads_311 : decode cX9_reads 311 = .ok (.ifCond .ne 13, 3) := by decide +kernel
theorem dX9_reads_314 : decode cX9_reads 314 = .ok (.aload_n 0, 1) := by decide +kernel
theorem dX9_reads_315 : decode cX9_reads 315 = .ok (.ldc2_w 205, 3) := by decide +kernel
theorem dX9_reads_318 : decode cX9_reads 318 = .ok (.invokevirtual 185, 3) := by decide +kernel
theorem dX9_reads_321 : decode cX9_reads 321 = .ok (.ifCond .eq 36, 3) := by decide +kernel
theorem dX9_reads_324 : decode cX9_reads 324 = .ok (.aload_n 0, 1) := by decide +kernel
theorem dX9_reads_325 : decode cX9_reads 325 = .ok (.aload_n 0, 1) := by decide +kernel
theorem dX9_reads_326 : decode cX9_reads 326 = .ok (.ldc2_w 203, 3) := by decide +kernel
theorem dX9_reads_329 : decode cX9_reads 329 = .ok (.invokevirtual 185, 3) := by decide +kernel
theorem dX9_reads_332 : decode cX9_reads 332 = .ok (.ifCond .eq 8, 3) := by decide +kernel
theorem dX9_reads_335 : decode cX9_reads 335 = .ok (.bipush 26, 2) := by decide +kernel
theorem dX9_reads_337 : decode cX9_reads 337 = .ok (.goto 5, 3) := by decide +kernel
theorem dX9_reads_340 : decode cX9_reads 340 = .ok (.bipush 27, 2) := by decide +kernel
theorem dX9_reads_342 : decode cX9_reads 342 = .ok (.invokevirtual 196, 3) := by decide +kernel
theorem dX9_reads_345 : decode cX9_reads 345 = .ok (.aload_n 0, 1) := by decide +kernel
theorem dX9_reads_346 : decode cX9_reads 346 = .ok (.getfield 44, 3) := by decide +kernel
theorem dX9_reads_349 : decode cX9_reads 349 = .ok (.iload_n 1, 1) := by decide +kernel
theorem dX9_reads_350 : decode cX9_reads 350 = .ok (.iconst 0, 1) := by decide +kernel
theorem dX9_reads_351 : decode cX9_reads 351 = .ok (.bastore, 1) := by decide +kernel
theorem dX9_reads_352 : decode cX9_reads 352 = .ok (.iconst 1, 1) := by decide +kernel
theorem dX9_reads_353 : decode cX9_reads 353 = .ok (.istore_n 2, 1) := by decide +kernel
theorem dX9_reads_354 : decode cX9_reads 354 = .ok (.goto 70, 3) := by decide +kernel
theorem dX9_reads_357 : decode cX9_reads 357 = .ok (.aload_n 0, 1) := by decide +kernel
theorem dX9_reads_358 : decode cX9_reads 358 = .ok (.bipush 41, 2) := by decide +kernel
theorem dX9_reads_360 : decode cX9_reads 360 = .ok (.invokevirtual 189, 3) := by decide +kernel
theorem dX9_reads_363 : decode cX9_reads 363 = .ok (.ifCond .eq 36, 3) := by decide +kernel
theorem dX9_reads_366 : decode cX9_reads 366 = .ok (.iload_n 1, 1) := by decide +kernel
theorem dX9_reads_367 : decode cX9_reads 367 = .ok (.ifCond .le 32, 3) := by decide +kernel
theorem dX9_reads_370 : decode cX9_reads 370 = .ok (.aload_n 0, 1) := by decide +kernel
theorem dX9_reads_371 : decode cX9_reads 371 = .ok (.bipush 29, 2) := by decide +kernel
theorem dX9_reads_373 : decode cX9_reads 373 = .ok (.invokevirtual 196, 3) := by decide +kernel
theorem dX9_reads_376 : decode cX9_reads 376 = .ok (.iinc 1 (-1), 3) := by decide +kernel
theorem dX9_reads_379 : decode cX9_reads 379 = .ok (.iload_n 1, 1) := by decide +kernel
theorem dX9_reads_380 : decode cX9_reads 380 = .ok (.ifCond .le 44, 3) := by decide +kernel
theorem dX9_reads_383 : decode cX9_reads 383 = .ok (.aload_n 0, 1) := by decide +kernel
theorem dX9_reads_384 : decode cX9_reads 384 = .ok (.getfield 41, 3) := by decide +kernel
theorem dX9_reads_387 : decode cX9_reads 387 = .ok (.iload_n 1, 1) := by decide +kernel
theorem dX9_reads_388 : decode cX9_reads 388 = .ok (.iaload, 1) := by decide +kernel
theorem dX9_reads_389 : decode cX9_reads 389 = .ok (.iconst 1, 1) := by decide +kernel
theorem dX9_reads_390 : decode cX9_reads 390 = .ok (.if_icmp .ne 34, 3) := by decide +kernel
theorem dX9_reads_393 : decode cX9_reads 393 = .ok (.iinc 1 (-1), 3) := by decide +kernel
theorem dX9_reads_396 : decode cX9_reads 396 = .ok (.goto (-17), 3) := by decide +kernel
theorem dX9_reads_399 : decode cX9_reads 399 = .ok (.iload_n 1, 1) := by decide +kernel
theorem dX9_reads_400 : decode cX9_reads 400 = .ok (.ifCond .ne 18, 3) := by decide +kernel
theorem dX9_reads_403 : decode cX9_reads 403 = .ok (.aload_n 0, 1) := by decide +kernel
theorem dX9_reads_404 : decode cX9_reads 404 = .ok (.bipush 59, 2) := by decide +kernel
theorem dX9_reads_406 : decode cX9_reads 406 = .ok (.invokevirtual 189, 3) := by decide +kernel
theorem dX9_reads_409 : decode cX9_reads 409 = .ok (.ifCond .eq 9, 3) := by decide +kernel
theorem dX9_reads_412 : decode cX9_reads 412 = .ok (.aload_n 0, 1) := by decide +kernel
theorem dX9_reads_413 : decode cX9_reads 413 = .ok (.invokevirtual 200, 3) := by decide +kernel
theorem dX9_reads_416 : decode cX9_reads 416 = .ok (.iconst 1, 1) := by decide +kernel
theorem dX9_reads_417 : decode cX9_reads 417 = .ok (.ireturn, 1) := by decide +kernel
theorem dX9_reads_418 : decode cX9_reads 418 = .ok (.aload_n 0, 1) := by decide +kernel
theorem dX9_reads_419 : decode cX9_reads 419 = .ok (.iconst 1, 1) := by decide +kernel
theorem dX9_reads_420 : decode cX9_reads 420 = .ok (.invokevirtual 193, 3) := by decide +kernel
theorem dX9_reads_423 : decode cX9_reads 423 = .ok (.ireturn, 1) := by decide +kernel
theorem dX9_reads_424 : decode cX9_reads 424 = .ok (.aload_n 0, 1) := by decide +kernel
theorem dX9_reads_425 : decode cX9_reads 425 = .ok (.invokevirtual 200, 3) := by decide +kernel
theorem dX9_reads_428 : decode cX9_reads 428 = .ok (.goto (-417), 3) := by decide +kernel
theorem dX9_opens_0 : decode cX9_opens 0 = .ok (.aload_n 0, 1) := by decide +kernel
theorem dX9_opens_1 : decode cX9_opens 1 = .ok (.getfield 51, 3) := by decide +kernel
theorem dX9_opens_4 : decode cX9_opens 4 = .ok (.iload_n 1, 1) := by decide +kernel
theorem dX9_opens_5 : decode cX9_opens 5 = .ok (.iconst 0, 1) := by decide +kernel
theorem dX9_opens_6 : decode cX9_opens 6 = .ok (.iastore, 1) := by decide +kernel
theorem dX9_opens_7 : decode cX9_opens 7 = .ok (.aload_n 0, 1) := by decide +kernel
theorem dX9_opens_8 : decode cX9_opens 8 = .ok (.getfield 57, 3) := by decide +kernel
theorem dX9_opens_11 : decode cX9_opens 11 = .ok (.iload_n 1, 1) := by decide +kernel
theorem dX9_opens_12 : decode cX9_opens 12 = .ok (.iconst 0, 1) := by decide +kernel
theorem dX9_opens_13 : decode cX9_opens 13 = .ok (.iastore, 1) := by decide +kernel
theorem dX9_opens_14 : decode cX9_opens 14 = .ok (.aload_n 0, 1) := by decide +kernel
theorem dX9_opens_15 : decode cX9_opens 15 = .ok (.getfield 60, 3) := by decide +kernel
theorem dX9_opens_18 : decode cX9_opens 18 = .ok (.iload_n 1, 1) := by decide +kernel
theorem dX9_opens_19 : decode cX9_opens 19 = .ok (.iconst 0, 1) := by decide +kernel
theorem dX9_opens_20 : decode cX9_opens 20 = .ok (.iastore, 1) := by decide +kernel
theorem dX9_opens_21 : decode cX9_opens 21 = .ok (.aload_n 0, 1) := by decide +kernel
theorem dX9_opens_22 : decode cX9_opens 22 = .ok (.getfield 63, 3) := by decide +kernel
theorem dX9_opens_25 : decode cX9_opens 25 = .ok (.iload_n 1, 1) := by decide +kernel
theorem dX9_opens_26 : decode cX9_opens 26 = .ok (.bipush 20, 2) := by decide +kernel
theorem dX9_opens_28 : decode cX9_opens 28 = .ok (.iastore, 1) := by decide +kernel
theorem dX9_opens_29 : decode cX9_opens 29 = .ok (.aload_n 0, 1) := by decide +kernel
theorem dX9_opens_30 : decode cX9_opens 30 = .ok (.getfield 69, 3) := by decide +kernel
theorem dX9_opens_33 : decode cX9_opens 33 = .ok (.iload_n 1, 1) := by decide +kernel
theorem dX9_opens_34 : decode cX9_opens 34 = .ok (.iconst 0, 1) := by decide +kernel
theorem dX9_opens_35 : decode cX9_opens 35 = .ok (.iastore, 1) := by decide +kernel
theorem dX9_opens_36 : decode cX9_opens 36 = .ok (.return_, 1) := by decide +kernel
theorem dX9_sums_0 : decode cX9_sums 0 = .ok (.aload_n 0, 1) := by decide +kernel
theorem dX9_sums_1 : decode cX9_sums 1 = .ok (.getfield 60, 3) := by decide +kernel
theorem dX9_sums_4 : decode cX9_sums 4 = .ok (.iload_n 1, 1) := by decide +kernel
theorem dX9_sums_5 : decode cX9_sums 5 = .ok (.aload_n 0, 1) := by decide +kernel
theorem dX9_sums_6 : decode cX9_sums 6 = .ok (.getfield 63, 3) := by decide +kernel
theorem dX9_sums_9 : decode cX9_sums 9 = .ok (.iload_n 1, 1) := by decide +kernel
theorem dX9_sums_10 : decode cX9_sums 10 = .ok (.iaload, 1) := by decide +kernel
theorem dX9_sums_11 : decode cX9_sums 11 = .ok (.bipush 21, 2) := by decide +kernel
theorem dX9_sums_13 : decode cX9_sums 13 = .ok (.if_icmp .ne 19, 3) := by decide +kernel
theorem dX9_sums_16 : decode cX9_sums 16 = .ok (.aload_n 0, 1) := by decide +kernel
theorem dX9_sums_17 : decode cX9_sums 17 = .ok (.getfield 60, 3) := by decide +kernel
theorem dX9_sums_20 : decode cX9_sums 20 = .ok (.iload_n 1, 1) := by decide +kernel
theorem dX9_sums_21 : decode cX9_sums 21 = .ok (.iaload, 1) := by decide +kernel
theorem dX9_sums_22 : decode cX9_sums 22 = .ok (.aload_n 0, 1) := by decide +kernel
theorem dX9_sums_23 : decode cX9_sums 23 = .ok (.getfield 66, 3) := by decide +kernel
theorem dX9_sums_26 : decode cX9_sums 26 = .ok (.iload_n 1, 1) := by decide +kernel
theorem dX9_sums_27 : decode cX9_sums 27 = .ok (.iaload, 1) := by decide +kernel
theorem dX9_sums_28 : decode cX9_sums 28 = .ok (.isub, 1) := by decide +kernel
theorem dX9_sums_29 : decode cX9_sums 29 = .ok (.goto 16, 3) := by decide +kernel
theorem dX9_sums_32 : decode cX9_sums 32 = .ok (.aload_n 0, 1) := by decide +kernel
theorem dX9_sums_33 : decode cX9_sums 33 = .ok (.getfield 60, 3) := by decide +kernel
theorem dX9_sums_36 : decode cX9_sums 36 = .ok (.iload_n 1, 1) := by decide +kernel
theorem dX9_sums_37 : decode cX9_sums 37 = .ok (.iaload, 1) := by decide +kernel
theorem dX9_sums_38 : decode cX9_sums 38 = .ok (.aload_n 0, 1) := by decide +kernel
theorem dX9_sums_39 : decode cX9_sums 39 = .ok (.getfield 66, 3) := by decide +kernel
theorem dX9_sums_42 : decode cX9_sums 42 = .ok (.iload_n 1, 1) := by decide +kernel
theorem dX9_sums_43 : decode cX9_sums 43 = .ok (.iaload, 1) := by decide +kernel
theorem dX9_sums_44 : decode cX9_sums 44 = .ok (.iadd, 1) := by decide +kernel
theorem dX9_sums_45 : decode cX9_sums 45 = .ok (.iastore, 1) := by decide +kernel
theorem dX9_sums_46 : decode cX9_sums 46 = .ok (.aload_n 0, 1) := by decide +kernel
theorem dX9_sums_47 : decode cX9_sums 47 = .ok (.getfield 69, 3) := by decide +kernel
theorem dX9_sums_50 : decode cX9_sums 50 = .ok (.iload_n 1, 1) := by decide +kernel
theorem dX9_sums_51 : decode cX9_sums 51 = .ok (.iconst 0, 1) := by decide +kernel
theorem dX9_sums_52 : decode cX9_sums 52 = .ok (.iastore, 1) := by decide +kernel
theorem dX9_sums_53 : decode cX9_sums 53 = .ok (.return_, 1) := by decide +kernel
theorem dX9_tests_0 : decode cX9_tests 0 = .ok (.aload_n 0, 1) := by decide +kernel
theorem dX9_tests_1 : decode cX9_tests 1 = .ok (.iload_n 1, 1) := by decide +kernel
theorem dX9_tests_2 : decode cX9_tests 2 = .ok (.invokevirtual 207, 3) := by decide +kernel
theorem dX9_tests_5 : decode cX9_tests 5 = .ok (.aload_n 0, 1) := by decide +kernel
theorem dX9_tests_6 : decode cX9_tests 6 = .ok (.getfield 60, 3) := by decide +kernel
theorem dX9_tests_9 : decode cX9_tests 9 = .ok (.iload_n 1, 1) := by decide +kernel
theorem dX9_tests_10 : decode cX9_tests 10 = .ok (.iaload, 1) := by decide +kernel
theorem dX9_tests_11 : decode cX9_tests 11 = .ok (.istore_n 2, 1) := by decide +kernel
theorem dX9_tests_12 : decode cX9_tests 12 = .ok (.aload_n 0, 1) := by decide +kernel
theorem dX9_tests_13 : decode cX9_tests 13 = .ok (.getfield 57, 3) := by decide +kernel
theorem dX9_tests_16 : decode cX9_tests 16 = .ok (.iload_n 1, 1) := by decide +kernel
theorem dX9_tests_17 : decode cX9_tests 17 = .ok (.iaload, 1) := by decide +kernel
theorem dX9_tests_18 : decode cX9_tests 18 = .ok (.bipush 24, 2) := by decide +kernel
theorem dX9_tests_20 : decode cX9_tests 20 = .ok (.if_icmp .ne 24, 3) := by decide +kernel
theorem dX9_tests_23 : decode cX9_tests 23 = .ok (.aload_n 0, 1) := by decide +kernel
theorem dX9_tests_24 : decode cX9_tests 24 = .ok (.getfield 54, 3) := by decide +kernel
theorem dX9_tests_27 : decode cX9_tests 27 = .ok (.iload_n 1, 1) := by decide +kernel
theorem dX9_tests_28 : decode cX9_tests 28 = .ok (.iaload, 1) := by decide +kernel
theorem dX9_tests_29 : decode cX9_tests 29 = .ok (.aload_n 0, 1) := by decide +kernel
theorem dX9_tests_30 : decode cX9_tests 30 = .ok (.getfield 60, 3) := by decide +kernel
theorem dX9_tests_33 : decode cX9_tests 33 = .ok (.iload_n 1, 1) := by decide +kernel
theorem dX9_tests_34 : decode cX9_tests 34 = .ok (.iaload, 1) := by decide +kernel
theorem dX9_tests_35 : decode cX9_tests 35 = .ok (.if_icmp .ge 7, 3) := by decide +kernel
theorem dX9_tests_38 : decode cX9_tests 38 = .ok (.iconst 1, 1) := by decide +kernel
theorem dX9_tests_39 : decode cX9_tests 39 = .ok (.goto 4, 3) := by decide +kernel
theorem dX9_tests_42 : decode cX9_tests 42 = .ok (.iconst 0, 1) := by decide +kernel
theorem dX9_tests_43 : decode cX9_tests 43 = .ok (.istore_n 2, 1) := by decide +kernel
