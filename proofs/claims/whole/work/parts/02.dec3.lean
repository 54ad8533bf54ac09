theorem dX9_meets_99 : decode cX9_meets 99 = .ok (.if_icmp .le (-37), 3) := by decide +kernel
theorem dX9_meets_102 : decode cX9_meets 102 = .ok (.iload 4, 2) := by decide +kernel
theorem dX9_meets_104 : decode cX9_meets 104 = .ok (.istore 5, 2) := by decide +kernel
theorem dX9_meets_106 : decode cX9_meets 106 = .ok (.goto (-44), 3) := by decide +kernel
theorem dX9_meets_109 : decode cX9_meets 109 = .ok (.aload_n 0, 1) := by decide +kernel
theorem dX9_meets_110 : decode cX9_meets 110 = .ok (.getfield 99, 3) := by decide +kernel
theorem dX9_meets_113 : decode cX9_meets 113 = .ok (.iconst 0, 1) := by decide +kernel
theorem dX9_meets_114 : decode cX9_meets 114 = .ok (.aload_n 0, 1) := by decide +kernel
theorem dX9_meets_115 : decode cX9_meets 115 = .ok (.getfield 93, 3) := by decide +kernel
theorem dX9_meets_118 : decode cX9_meets 118 = .ok (.iconst 0, 1) := by decide +kernel
theorem dX9_meets_119 : decode cX9_meets 119 = .ok (.invokestatic 350, 3) := by decide +kernel
theorem dX9_meets_122 : decode cX9_meets 122 = .ok (.iload 5, 2) := by decide +kernel
theorem dX9_meets_124 : decode cX9_meets 124 = .ok (.ireturn, 1) := by decide +kernel
theorem dX9_spread_0 : decode cX9_spread 0 = .ok (.aload_n 0, 1) := by decide +kernel
theorem dX9_spread_1 : decode cX9_spread 1 = .ok (.iconst 0, 1) := by decide +kernel
theorem dX9_spread_2 : decode cX9_spread 2 = .ok (.putfield 130, 3) := by decide +kernel
theorem dX9_spread_5 : decode cX9_spread 5 = .ok (.iload_n 1, 1) := by decide +kernel
theorem dX9_spread_6 : decode cX9_spread 6 = .ok (.iconst 0, 1) := by decide +kernel
theorem dX9_spread_7 : decode cX9_spread 7 = .ok (.bipush 9, 2) := by decide +kernel
theorem dX9_spread_9 : decode cX9_spread 9 = .ok (.invokestatic 244, 3) := by decide +kernel
theorem dX9_spread_12 : decode cX9_spread 12 = .ok (.ifCond .ne 5, 3) := by decide +kernel
theorem dX9_spread_15 : decode cX9_spread 15 = .ok (.iconst (-1), 1) := by decide +kernel
theorem dX9_spread_16 : decode cX9_spread 16 = .ok (.ireturn, 1) := by decide +kernel
theorem dX9_spread_17 : decode cX9_spread 17 = .ok (.aload_n 0, 1) := by decide +kernel
theorem dX9_spread_18 : decode cX9_spread 18 = .ok (.getfield 93, 3) := by decide +kernel
theorem dX9_spread_21 : decode cX9_spread 21 = .ok (.iconst 0, 1) := by decide +kernel
theorem dX9_spread_22 : decode cX9_spread 22 = .ok (.aload_n 0, 1) := by decide +kernel
theorem dX9_spread_23 : decode cX9_spread 23 = .ok (.getfield 99, 3) := by decide +kernel
theorem dX9_spread_26 : decode cX9_spread 26 = .ok (.iconst 0, 1) := by decide +kernel
theorem dX9_spread_27 : decode cX9_spread 27 = .ok (.invokestatic 350, 3) := by decide +kernel
theorem dX9_spread_30 : decode cX9_spread 30 = .ok (.aload_n 0, 1) := by decide +kernel
theorem dX9_spread_31 : decode cX9_spread 31 = .ok (.invokevirtual 390, 3) := by decide +kernel
theorem dX9_spread_34 : decode cX9_spread 34 = .ok (.iconst 0, 1) := by decide +kernel
theorem dX9_spread_35 : decode cX9_spread 35 = .ok (.istore_n 2, 1) := by decide +kernel
theorem dX9_spread_36 : decode cX9_spread 36 = .ok (.iconst 0, 1) := by decide +kernel
theorem dX9_spread_37 : decode cX9_spread 37 = .ok (.istore_n 3, 1) := by decide +kernel
theorem dX9_spread_38 : decode cX9_spread 38 = .ok (.iload_n 3, 1) := by decide +kernel
theorem dX9_spread_39 : decode cX9_spread 39 = .ok (.aload_n 0, 1) := by decide +kernel
theorem dX9_spread_40 : decode cX9_spread 40 = .ok (.getfield 13, 3) := by decide +kernel
theorem dX9_spread_43 : decode cX9_spread 43 = .ok (.iconst 0, 1) := by decide +kernel
theorem dX9_spread_44 : decode cX9_spread 44 = .ok (.iaload, 1) := by decide +kernel
theorem dX9_spread_45 : decode cX9_spread 45 = .ok (.if_icmp .ge 27, 3) := by decide +kernel
theorem dX9_spread_48 : decode cX9_spread 48 = .ok (.iload_n 2, 1) := by decide +kernel
theorem dX9_spread_49 : decode cX9_spread 49 = .ok (.aload_n 0, 1) := by decide +kernel
theorem dX9_spread_50 : decode cX9_spread 50 = .ok (.getfield 93, 3) := by decide +kernel
theorem dX9_spread_53 : decode cX9_spread 53 = .ok (.bipush 16, 2) := by decide +kernel
theorem dX9_spread_55 : decode cX9_spread 55 = .ok (.iload_n 3, 1) := by decide +kernel
theorem dX9_spread_56 : decode cX9_spread 56 = .ok (.iadd, 1) := by decide +kernel
theorem dX9_spread_57 : decode cX9_spread 57 = .ok (.iaload, 1) := by decide +kernel
theorem dX9_spread_58 : decode cX9_spread 58 = .ok (.iload_n 1, 1) := by decide +kernel
theorem dX9_spread_59 : decode cX9_spread 59 = .ok (.ishr, 1) := by decide +kernel
theorem dX9_spread_60 : decode cX9_spread 60 = .ok (.iconst 1, 1) := by decide +kernel
theorem dX9_spread_61 : decode cX9_spread 61 = .ok (.iand, 1) := by decide +kernel
theorem dX9_spread_62 : decode cX9_spread 62 = .ok (.iload_n 3, 1) := by decide +kernel
theorem dX9_spread_63 : decode cX9_spread 63 = .ok (.ishl, 1) := by decide +kernel
theorem dX9_spread_64 : decode cX9_spread 64 = .ok (.ior, 1) := by decide +kernel
theorem dX9_spread_65 : decode cX9_spread 65 = .ok (.istore_n 2, 1) := by decide +kernel
theorem dX9_spread_66 : decode cX9_spread 66 = .ok (.iinc 3 1, 3) := by decide +kernel
theorem dX9_spread_69 : decode cX9_spread 69 = .ok (.goto (-31), 3) := by decide +kernel
theorem dX9_spread_72 : decode cX9_spread 72 = .ok (.aload_n 0, 1) := by decide +kernel
theorem dX9_spread_73 : decode cX9_spread 73 = .ok (.getfield 99, 3) := by decide +kernel
theorem dX9_spread_76 : decode cX9_spread 76 = .ok (.iconst 0, 1) := by decide +kernel
theorem dX9_spread_77 : decode cX9_spread 77 = .ok (.aload_n 0, 1) := by decide +kernel
theorem dX9_spread_78 : decode cX9_spread 78 = .ok (.getfield 93, 3) := by decide +kernel
theorem dX9_spread_81 : decode cX9_spread 81 = .ok (.iconst 0, 1) := by decide +kernel
theorem dX9_spread_82 : decode cX9_spread 82 = .ok (.invokestatic 350, 3) := by decide +kernel
theorem dX9_spread_85 : decode cX9_spread 85 = .ok (.iload_n 2, 1) := by decide +kernel
theorem dX9_spread_86 : decode cX9_spread 86 = .ok (.ireturn, 1) := by decide +kernel
theorem dX9_mayRing_0 : decode cX9_mayRing 0 = .ok (.iconst 0, 1) := by decide +kernel
theorem dX9_mayRing_1 : decode cX9_mayRing 1 = .ok (.istore_n 1, 1) := by decide +kernel
theorem dX9_mayRing_2 : decode cX9_mayRing 2 = .ok (.iconst 0, 1) := by decide +kernel
theorem dX9_mayRing_3 : decode cX9_mayRing 3 = .ok (.istore_n 2, 1) := by decide +kernel
theorem dX9_mayRing_4 : decode cX9_mayRing 4 = .ok (.iload_n 2, 1) := by decide +kernel
theorem dX9_mayRing_5 : decode cX9_mayRing 5 = .ok (.aload_n 0, 1) := by decide +kernel
theorem dX9_mayRing_6 : decode cX9_mayRing 6 = .ok (.getfield 13, 3) := by decide +kernel
theorem dX9_mayRing_9 : decode cX9_mayRing 9 = .ok (.iconst 0, 1) := by decide +kernel
theorem dX9_mayRing_10 : decode cX9_mayRing 10 = .ok (.iaload, 1) := by decide +kernel
theorem dX9_mayRing_11 : decode cX9_mayRing 11 = .ok (.if_icmp .ge 27, 3) := by decide +kernel
theorem dX9_mayRing_14 : decode cX9_mayRing 14 = .ok (.iload_n 1, 1) := by decide +kernel
theorem dX9_mayRing_15 : decode cX9_mayRing 15 = .ok (.aload_n 0, 1) := by decide +kernel
theorem dX9_mayRing_16 : decode cX9_mayRing 16 = .ok (.iload_n 2, 1) := by decide +kernel
theorem dX9_mayRing_17 : decode cX9_mayRing 17 = .ok (.invokevirtual 354, 3) := by decide +kernel
theorem dX9_mayRing_20 : decode cX9_mayRing 20 = .ok (.ifCond .eq 9, 3) := by decide +kernel
theorem dX9_mayRing_23 : decode cX9_mayRing 23 = .ok (.iconst 1, 1) := by decide +kernel
theorem dX9_mayRing_24 : decode cX9_mayRing 24 = .ok (.iload_n 2, 1) := by decide +kernel
theorem dX9_mayRing_25 : decode cX9_mayRing 25 = .ok (.ishl, 1) := by decide +kernel
theorem dX9_mayRing_26 : decode cX9_mayRing 26 = .ok (.goto 4, 3) := by decide +kernel
theorem dX9_mayRing_29 : decode cX9_mayRing 29 = .ok (.iconst 0, 1) := by decide +kernel
theorem dX9_mayRing_30 : decode cX9_mayRing 30 = .ok (.ior, 1) := by decide +kernel
theorem dX9_mayRing_31 : decode cX9_mayRing 31 = .ok (.istore_n 1, 1) := by decide +kernel
theorem dX9_mayRing_32 : decode cX9_mayRing 32 = .ok (.iinc 2 1, 3) := by decide +kernel
theorem dX9_mayRing_35 : decode cX9_mayRing 35 = .ok (.goto (-31), 3) := by decide +kernel
theorem dX9_mayRing_38 : decode cX9_mayRing 38 = .ok (.iload_n 1, 1) := by decide +kernel
theorem dX9_mayRing_39 : decode cX9_mayRing 39 = .ok (.ireturn, 1) := by decide +kernel
theorem dX9_orders_0 : decode cX9_orders 0 = .ok (.iload_n 2, 1) := by decide +kernel
theorem dX9_orders_1 : decode cX9_orders 1 = .ok (.ifCond .ne 109, 3) := by decide +kernel
theorem dX9_orders_4 : decode cX9_orders 4 = .ok (.aload_n 0, 1) := by decide +kernel
theorem dX9_orders_5 : decode cX9_orders 5 = .ok (.getfield 93, 3) := by decide +kernel
theorem dX9_orders_8 : decode cX9_orders 8 = .ok (.iconst 0, 1) := by decide +kernel
theorem dX9_orders_9 : decode cX9_orders 9 = .ok (.aload_n 0, 1) := by decide +kernel
theorem dX9_orders_10 : decode cX9_orders 10 = .ok (.getfield 96, 3) := by decide +kernel
theorem dX9_orders_13 : decode cX9_orders 13 = .ok (.iconst 0, 1) := by decide +kernel
theorem dX9_orders_14 : decode cX9_orders 14 = .ok (.invokestatic 350, 3) := by decide +kernel
theorem dX9_orders_17 : decode cX9_orders 17 = .ok (.iconst 0, 1) := by decide +kernel
theorem dX9_orders_18 : decode cX9_orders 18 = .ok (.istore_n 3, 1) := by decide +kernel
theorem dX9_orders_19 : decode cX9_orders 19 = .ok (.iload_n 3, 1) := by decide +kernel
theorem dX9_orders_20 : decode cX9_orders 20 = .ok (.iload_n 1, 1) := by decide +kernel
theorem dX9_orders_21 : decode cX9_orders 21 = .ok (.if_icmp .ge 19, 3) := by decide +kernel
theorem dX9_orders_24 : decode cX9_orders 24 = .ok (.aload_n 0, 1) := by decide +kernel
theorem dX9_orders_25 : decode cX9_orders 25 = .ok (.aload_n 0, 1) := by decide +kernel
theorem dX9_orders_26 : decode cX9_orders 26 = .ok (.getfield 114, 3) := by decide +kernel
theorem dX9_orders_29 : decode cX9_orders 29 = .ok (.iload_n 3, 1) := by decide +kernel
theorem dX9_orders_30 : decode cX9_orders 30 = .ok (.iaload, 1) := by decide +kernel
theorem dX9_orders_31 : decode cX9_orders 31 = .ok (.invokevirtual 360, 3) := by decide +kernel
theorem dX9_orders_34 : decode cX9_orders 34 = .ok (.iinc 3 1, 3) := by decide +kernel
theorem dX9_orders_37 : decode cX9_orders 37 = .ok (.goto (-18), 3) := by decide +kernel
theorem dX9_orders_40 : decode cX9_orders 40 = .ok (.aload_n 0, 1) := by decide +kernel
theorem dX9_orders_41 : decode cX9_orders 41 = .ok (.invokevirtual 390, 3) := by decide +kernel
theorem dX9_orders_44 : decode cX9_orders 44 = .ok (.aload_n 0, 1) := by decide +kernel
theorem dX9_orders_45 : decode cX9_orders 45 = .ok (.getfield 96, 3) := by decide +kernel
theorem dX9_orders_48 : decode cX9_orders 48 = .ok (.iconst 0, 1) := by decide +kernel
theorem dX9_orders_49 : decode cX9_orders 49 = .ok (.aload_n 0, 1) := by decide +kernel
theorem dX9_orders_50 : decode cX9_orders 50 = .ok (.getfield 93, 3) := by decide +kernel
theorem dX9_orders_53 : decode cX9_orders 53 = .ok (.iconst 0, 1) := by decide +kernel
theorem dX9_orders_54 : decode cX9_orders 54 = .ok (.invokestatic 350, 3) := by decide +kernel
theorem dX9_orders_57 : decode cX9_orders 57 = .ok (.aload_n 0, 1) := by decide +kernel
theorem dX9_orders_58 : decode cX9_orders 58 = .ok (.getfield 387, 3) := by decide +kernel
theorem dX9_orders_61 : decode cX9_orders 61 = .ok (.invokestatic 322, 3) := by decide +kernel
theorem dX9_orders_64 : decode cX9_orders 64 = .ok (.aload_n 0, 1) := by decide +kernel
theorem dX9_orders_65 : decode cX9_orders 65 = .ok (.getfield 396, 3) := by decide +kernel
theorem dX9_orders_68 : decode cX9_orders 68 = .ok (.if_icmp .gt 4, 3) := by decide +kernel
theorem dX9_orders_71 : decode cX9_orders 71 = .ok (.return_, 1) := by decide +kernel
theorem dX9_orders_72 : decode cX9_orders 72 = .ok (.aload_n 0, 1) := by decide +kernel
theorem dX9_orders_73 : decode cX9_orders 73 = .ok (.aload_n 0, 1) := by decide +kernel
theorem dX9_orders_74 : decode cX9_orders 74 = .ok (.getfield 387, 3) := by decide +kernel
theorem dX9_orders_77 : decode cX9_orders 77 = .ok (.invokestatic 322, 3) := by decide +kernel
theorem dX9_orders_80 : decode cX9_orders 80 = .ok (.putfield 396, 3) := by decide +kernel
theorem dX9_orders_83 : decode cX9_orders 83 = .ok (.iconst 0, 1) := by decide +kernel
theorem dX9_orders_84 : decode cX9_orders 84 = .ok (.istore_n 3, 1) := by decide +kernel
theorem dX9_orders_85 : decode cX9_orders 85 = .ok (.iload_n 3, 1) := by decide +kernel
theorem dX9_orders_86 : decode cX9_orders 86 = .ok (.bipush 6, 2) := by decide +kernel
theorem dX9_orders_88 : decode cX9_orders 88 = .ok (.if_icmp .ge 21, 3) := by decide +kernel
theorem dX9_orders_91 : decode cX9_orders 91 = .ok (.aload_n 0, 1) := by decide +kernel
theorem dX9_orders_92 : decode cX9_orders 92 = .ok (.getfield 117, 3) := by decide +kernel
theorem dX9_orders_95 : decode cX9_orders 95 = .ok (.iload_n 3, 1) := by decide +kernel
theorem dX9_orders_96 : decode cX9_orders 96 = .ok (.aload_n 0, 1) := by decide +kernel
theorem dX9_orders_97 : decode cX9_orders 97 = .ok (.getfield 114, 3) := by decide +kernel
theorem dX9_orders_100 : decode cX9_orders 100 = .ok (.iload_n 3, 1) := by decide +kernel
theorem dX9_orders_101 : decode cX9_orders 101 = .ok (.iaload, 1) := by decide +kernel
theorem dX9_orders_102 : decode cX9_orders 102 = .ok (.iastore, 1) := by decide +kernel
theorem dX9_orders_103 : decode cX9_orders 103 = .ok (.iinc 3 1, 3) := by decide +kernel
theorem dX9_orders_106 : decode cX9_orders 106 = .ok (.goto (-21), 3) := by decide +kernel
theorem dX9_orders_109 : decode cX9_orders 109 = .ok (.return_, 1) := by decide +kernel
theorem dX9_orders_110 : decode cX9_orders 110 = .ok (.iconst 0, 1) := by decide +kernel
theorem dX9_orders_111 : decode cX9_orders 111 = .ok (.istore_n 3, 1) := by decide +kernel
theorem dX9_orders_112 : decode cX9_orders 112 = .ok (.iload_n 3, 1) := by decide +kernel
theorem dX9_orders_113 : decode cX9_orders 113 = .ok (.aload_n 0, 1) := by decide +kernel
theorem dX9_orders_114 : decode cX9_orders 114 = .ok (.getfield 13, 3) := by decide +kernel
theorem dX9_orders_117 : decode cX9_orders 117 = .ok (.iconst 0, 1) := by decide +kernel
theorem dX9_orders_118 : decode cX9_orders 118 = .ok (.iaload, 1) := by decide +kernel
theorem dX9_orders_119 : decode cX9_orders 119 = .ok (.if_icmp .ge 41, 3) := by decide +kernel
theorem dX9_orders_122 : decode cX9_orders 122 = .ok (.iload_n 2, 1) := by decide +kernel
theorem dX9_orders_123 : decode cX9_orders 123 = .ok (.iload_n 3, 1) := by decide +kernel
theorem dX9_orders_124 : decode cX9_orders 124 = .ok (.ishr, 1) := by decide +kernel
theorem dX9_orders_125 : decode cX9_orders 125 = .ok (.iconst 1, 1) := by decide +kernel
theorem dX9_orders_126 : decode cX9_orders 126 = .ok (.iand, 1) := by decide +kernel
theorem dX9_orders_127 : decode cX9_orders 127 = .ok (.ifCond .ne 6, 3) := by decide +kernel
theorem dX9_orders_130 : decode cX9_orders 130 = .ok (.goto 24, 3) := by decide +kernel
theorem dX9_orders_133 : decode cX9_orders 133 = .ok (.aload_n 0, 1) := by decide +kernel
theorem dX9_orders_134 : decode cX9_orders 134 = .ok (.getfield 114, 3) := by decide +kernel
theorem dX9_orders_137 : decode cX9_orders 137 = .ok (.iload_n 1, 1) := by decide +kernel
theorem dX9_orders_138 : decode cX9_orders 138 = .ok (.iload_n 3, 1) := by decide +kernel
theorem dX9_orders_139 : decode cX9_orders 139 = .ok (.iastore, 1) := by decide +kernel
theorem dX9_orders_140 : decode cX9_orders 140 = .ok (.aload_n 0, 1) := by decide +kernel
theorem dX9_orders_141 : decode cX9_orders 141 = .ok (.iload_n 1, 1) := by decide +kernel
theorem dX9_orders_142 : decode cX9_orders 142 = .ok (.iconst 1, 1) := by decide +kernel
theorem dX9_orders_143 : decode cX9_orders 143 = .ok (.iadd, 1) := by decide +kernel
theorem dX9_orders_144 : decode cX9_orders 144 = .ok (.iload_n 2, 1) := by decide +kernel
theorem dX9_orders_145 : decode cX9_orders 145 = .ok (.iconst 1, 1) := by decide +kernel
theorem dX9_orders_146 : decode cX9_orders 146 = .ok (.iload_n 3, 1) := by decide +kernel
theorem dX9_orders_147 : decode cX9_orders 147 = .ok (.ishl, 1) := by decide +kernel
theorem dX9_orders_148 : decode cX9_orders 148 = .ok (.iconst (-1), 1) := by decide +kernel
theorem dX9_orders_149 : decode cX9_orders 149 = .ok (.ixor, 1) := by decide +kernel
theorem dX9_orders_150 : decode cX9_orders 150 = .ok (.iand, 1) := by decide +kernel
theorem dX9_orders_151 : decode cX9_orders 151 = .ok (.invokevirtual 399, 3) := by decide +kernel
theorem dX9_orders_154 : decode cX9_orders 154 = .ok (.iinc 3 1, 3) := by decide +kernel
theorem dX9_orders_157 : decode cX9_orders 157 = .ok (.goto (-45), 3) := by decide +kernel
theorem dX9_orders_160 : decode cX9_orders 160 = .ok (.return_, 1) := by decide +kernel
theorem dX9_order_0 : decode cX9_order 0 = .ok (.aload_n 0, 1) := by decide +kernel
theorem dX9_order_1 : decode cX9_order 1 = .ok (.iconst 0, 1) := by decide +kernel
theorem dX9_order_2 : decode cX9_order 2 = .ok (.putfield 130, 3) := by decide +kernel
theorem dX9_order_5 : decode cX9_order 5 = .ok (.aload_n 0, 1) := by decide +kernel
theorem dX9_order_6 : decode cX9_order 6 = .ok (.invokevirtual 402, 3) := by decide +kernel
theorem dX9_order_9 : decode cX9_order 9 = .ok (.istore_n 2, 1) := by decide +kernel
theorem dX9_order_10 : decode cX9_order 10 = .ok (.iload_n 1, 1) := by decide +kernel
theorem dX9_order_11 : decode cX9_order 11 = .ok (.iconst (-1), 1) := by decide +kernel
theorem dX9_order_12 : decode cX9_order 12 = .ok (.iload_n 2, 1) := by decide +kernel
theorem dX9_order_13 : decode cX9_order 13 = .ok (.invokestatic 322, 3) := by decide +kernel
theorem dX9_order_16 : decode cX9_order 16 = .ok (.iconst 1, 1) := by decide +kernel
theorem dX9_order_17 : decode cX9_order 17 = .ok (.isub, 1) := by decide +kernel
theorem dX9_order_18 : decode cX9_order 18 = .ok (.invokestatic 244, 3) := by decide +kernel
theorem dX9_order_21 : decode cX9_order 21 = .ok (.ifCond .ne 6, 3) := by decide +kernel
theorem dX9_order_24 : decode cX9_order 24 = .ok (.bipush (-2), 2) := by decide +kernel
theorem dX9_order_26 : decode cX9_order 26 = .ok (.ireturn, 1) := by decide +kernel
theorem dX9_order_27 : decode cX9_order 27 = .ok (.aload_n 0, 1) := by decide +kernel
theorem dX9_order_28 : decode cX9_order 28 = .ok (.iconst (-1), 1) := by decide +kernel
theorem dX9_order_29 : decode cX9_order 29 = .ok (.putfield 396, 3) := by decide +kernel
theorem dX9_order_32 : decode cX9_order 32 = .ok (.aload_n 0, 1) := by decide +kernel
theorem dX9_order_33 : decode cX9_order 33 = .ok (.iconst 0, 1) := by decide +kernel
theorem dX9_order_34 : decode cX9_order 34 = .ok (.iload_n 2, 1) := by decide +kernel
theorem dX9_order_35 : decode cX9_order 35 = .ok (.invokevirtual 399, 3) := by decide +kernel
theorem dX9_order_38 : decode cX9_order 38 = .ok (.iload_n 1, 1) := by decide +kernel
theorem dX9_order_39 : decode cX9_order 39 = .ok (.iconst (-1), 1) := by decide +kernel
theorem dX9_order_40 : decode cX9_order 40 = .ok (.if_icmp .ne 10, 3) := by decide +kernel
theorem dX9_order_43 : decode cX9_order 43 = .ok (.aload_n 0, 1) := by decide +kernel
theorem dX9_order_44 : decode cX9_order 44 = .ok (.getfield 396, 3) := by decide +kernel
theorem dX9_order_47 : decode cX9_order 47 = .ok (.goto 9, 3) := by decide +kernel
theorem dX9_order_50 : decode cX9_order 50 = .ok (.aload_n 0, 1) := by decide +kernel
theorem dX9_order_51 : decode cX9_order 51 = .ok (.getfield 117, 3) := by decide +kernel
theorem dX9_order_54 : decode cX9_order 54 = .ok (.iload_n 1, 1) := by decide +kernel
theorem dX9_order_55 : decode cX9_order 55 = .ok (.iaload, 1) := by decide +kernel
theorem dX9_order_56 : decode cX9_order 56 = .ok (.ireturn, 1) := by decide +kernel
theorem dX9_settledBy_0 : decode cX9_settledBy 0 = .ok (.aload_n 0, 1) := by decide +kernel
theorem dX9_settledBy_1 : decode cX9_settledBy 1 = .ok (.getfield 93, 3) := by decide +kernel
theorem dX9_settledBy_4 : decode cX9_settledBy 4 = .ok (.iconst 0, 1) := by decide +kernel
theorem dX9_settledBy_5 : decode cX9_settledBy 5 = .ok (.aload_n 0, 1) := by decide +kernel
theorem dX9_settledBy_6 : decode cX9_settledBy 6 = .ok (.getfield 96, 3) := by decide +kernel
theorem dX9_settledBy_9 : decode cX9_settledBy 9 = .ok (.iconst 0, 1) := by decide +kernel
theorem dX9_settledBy_10 : decode cX9_settledBy 10 = .ok (.invokestatic 350, 3) := by decide +kernel
theorem dX9_settledBy_13 : decode cX9_settledBy 13 = .ok (.iconst 0, 1) := by decide +kernel
theorem dX9_settledBy_14 : decode cX9_settledBy 14 = .ok (.istore_n 2, 1) := by decide +kernel
theorem dX9_settledBy_15 : decode cX9_settledBy 15 = .ok (.iload_n 2, 1) := by decide +kernel
theorem dX9_settledBy_16 : decode cX9_settledBy 16 = .ok (.aload_n 0, 1) := by decide +kernel
theorem dX9_settledBy_17 : decode cX9_settledBy 17 = .ok (.getfield 13, 3) := by decide +kernel
theorem dX9_settledBy_20 : decode cX9_settledBy 20 = .ok (.iconst 0, 1) := by decide +kernel
theorem dX9_settledBy_21 : decode cX9_settledBy 21 = .ok (.iaload, 1) := by decide +kernel
theorem dX9_settledBy_22 : decode cX9_settledBy 22 = .ok (.if_icmp .ge 23, 3) := by decide +kernel
theorem dX9_settledBy_25 : decode cX9_settledBy 25 = .ok (.iload_n 1, 1) := by decide +kernel
theorem dX9_settledBy_26 : decode cX9_settledBy 26 = .ok (.iload_n 2, 1) := by decide +kernel
theorem dX9_settledBy_27 : decode cX9_settledBy 27 = .ok (.ishr, 1) := by decide +kernel
theorem dX9_settledBy_28 : decode cX9_settledBy 28 = .ok (.iconst 1, 1) := by decide +kernel
theorem dX9_settledBy_29 : decode cX9_settledBy 29 = .ok (.iand, 1) := by decide +kernel
theorem dX9_settledBy_30 : decode cX9_settledBy 30 = .ok (.iconst 1, 1) := by decide +kernel
theorem dX9_settledBy_31 : decode cX9_settledBy 31 = .ok (.if_icmp .ne 8, 3) := by decide +kernel
theorem dX9_settledBy_34 : decode cX9_settledBy 34 = .ok (.aload_n 0, 1) := by decide +kernel
theorem dX9_settledBy_35 : decode cX9_settledBy 35 = .ok (.iload_n 2, 1) := by decide +kernel
theorem dX9_settledBy_36 : decode cX9_settledBy 36 = .ok (.invokevirtual 360, 3) := by decide +kernel
theorem dX9_settledBy_39 : decode cX9_settledBy 39 = .ok (.iinc 2 1, 3) := by decide +kernel
theorem dX9_settledBy_42 : decode cX9_settledBy 42 = .ok (.goto (-27), 3) := by decide +kernel
theorem dX9_settledBy_45 : decode cX9_settledBy 45 = .ok (.aload_n 0, 1) := by decide +kernel
theorem dX9_settledBy_46 : decode cX9_settledBy 46 = .ok (.invokevirtual 390, 3) := by decide +kernel
theorem dX9_settledBy_49 : decode cX9_settledBy 49 = .ok (.aload_n 0, 1) := by decide +kernel
theorem dX9_settledBy_50 : decode cX9_settledBy 50 = .ok (.getfield 96, 3) := by decide +kernel
theorem dX9_settledBy_53 : decode cX9_settledBy 53 = .ok (.iconst 0, 1) := by decide +kernel
theorem dX9_settledBy_54 : decode cX9_settledBy 54 = .ok (.aload_n 0, 1) := by decide +kernel
theorem dX9_settledBy_55 : decode cX9_settledBy 55 = .ok (.getfield 93, 3) := by decide +kernel
theorem dX9_settledBy_58 : decode cX9_settledBy 58 = .ok (.iconst 0, 1) := by decide +kernel
theorem dX9_settledBy_59 : decode cX9_settledBy 59 = .ok (.invokestatic 350, 3) := by decide +kernel
theorem dX9_settledBy_62 : decode cX9_settledBy 62 = .ok (.aload_n 0, 1) := by decide +kernel
theorem dX9_settledBy_63 : decode cX9_settledBy 63 = .ok (.getfield 387, 3) := by decide +kernel
theorem dX9_settledBy_66 : decode cX9_settledBy 66 = .ok (.ireturn, 1) := by decide +kernel
theorem dX9_helpers_0 : decode cX9_helpers 0 = .ok (.aload_n 0, 1) := by decide +kernel
theorem dX9_helpers_1 : decode cX9_helpers 1 = .ok (.iconst 0, 1) := by decide +kernel
theorem dX9_helpers_2 : decode cX9_helpers 2 = .ok (.putfield 130, 3) := by decide +kernel
theorem dX9_helpers_5 : decode cX9_helpers 5 = .ok (.aload_n 0, 1) := by decide +kernel
theorem dX9_helpers_6 : decode cX9_helpers 6 = .ok (.iload_n 1, 1) := by decide +kernel
theorem dX9_helpers_7 : decode cX9_helpers 7 = .ok (.invokevirtual 347, 3) := by decide +kernel
theorem dX9_helpers_10 : decode cX9_helpers 10 = .ok (.ifCond .eq 11, 3) := by decide +kernel
theorem dX9_helpers_13 : decode cX9_helpers 13 = .ok (.aload_n 0, 1) := by decide +kernel
theorem dX9_helpers_14 : decode cX9_helpers 14 = .ok (.iload_n 1, 1) := by decide +kernel
theorem dX9_helpers_15 : decode cX9_helpers 15 = .ok (.invokevirtual 319, 3) := by decide +kernel
theorem dX9_helpers_18 : decode cX9_helpers 18 = .ok (.ifCond .ge 5, 3) := by decide +kernel
theorem dX9_helpers_21 : decode cX9_helpers 21 = .ok (.iconst (-1), 1) := by decide +kernel
theorem dX9_helpers_22 : decode cX9_helpers 22 = .ok (.ireturn, 1) := by decide +kernel
theorem dX9_helpers_23 : decode cX9_helpers 23 = .ok (.aload_n 0, 1) := by decide +kernel
theorem dX9_helpers_24 : decode cX9_helpers 24 = .ok (.invokevirtual 402, 3) := by decide +kernel
theorem dX9_helpers_27 : decode cX9_helpers 27 = .ok (.istore_n 2, 1) := by decide +kernel
theorem dX9_helpers_28 : decode cX9_helpers 28 = .ok (.iconst (-1), 1) := by decide +kernel
theorem dX9_helpers_29 : decode cX9_helpers 29 = .ok (.istore_n 3, 1) := by decide +kernel
theorem dX9_helpers_30 : decode cX9_helpers 30 = .ok (.iconst 0, 1) := by decide +kernel
theorem dX9_helpers_31 : decode cX9_helpers 31 = .ok (.istore 4, 2) := by decide +kernel
theorem dX9_helpers_33 : decode cX9_helpers 33 = .ok (.iload 4, 2) := by decide +kernel
theorem dX9_helpers_35 : decode cX9_helpers 35 = .ok (.iload_n 2, 1) := by decide +kernel
theorem dX9_helpers_36 : decode cX9_helpers 36 = .ok (.if_icmp .gt 51, 3) := by decide +kernel
theorem dX9_helpers_39 : decode cX9_helpers 39 = .ok (.iload 4, 2) := by decide +kernel
theorem dX9_helpers_41 : decode cX9_helpers 41 = .ok (.iload_n 2, 1) := by decide +kernel
theorem dX9_helpers_42 : decode cX9_helpers 42 = .ok (.iconst (-1), 1) := by decide +kernel
theorem dX9_helpers_43 : decode cX9_helpers 43 = .ok (.ixor, 1) := by decide +kernel
theorem dX9_helpers_44 : decode cX9_helpers 44 = .ok (.iand, 1) := by decide +kernel
theorem dX9_helpers_45 : decode cX9_helpers 45 = .ok (.ifCond .ne 36, 3) := by decide +kernel
theorem dX9_helpers_48 : decode cX9_helpers 48 = .ok (.iload_n 3, 1) := by decide +kernel
theorem dX9_helpers_49 : decode cX9_helpers 49 = .ok (.ifCond .lt 15, 3) := by decide +kernel
theorem dX9_helpers_52 : decode cX9_helpers 52 = .ok (.iload 4, 2) := by decide +kernel
theorem dX9_helpers_54 : decode cX9_helpers 54 = .ok (.invokestatic 322, 3) := by decide +kernel
theorem dX9_helpers_57 : decode cX9_helpers 57 = .ok (.iload_n 3, 1) := by decide +kernel
theorem dX9_helpers_58 : decode cX9_helpers 58 = .ok (.invokestatic 322, 3) := by decide +kernel
theorem dX9_helpers_61 : decode cX9_helpers 61 = .ok (.if_icmp .ge 20, 3) := by decide +kernel
theorem dX9_helpers_64 : decode cX9_helpers 64 = .ok (.aload_n 0, 1) := by decide +kernel
theorem dX9_helpers_65 : decode cX9_helpers 65 = .ok (.iload 4, 2) := by decide +kernel
theorem dX9_helpers_67 : decode cX9_helpers 67 = .ok (.invokevirtual 405, 3) := by decide +kernel
theorem dX9_helpers_70 : decode cX9_helpers 70 = .ok (.iload_n 1, 1) := by decide +kernel
theorem dX9_helpers_71 : decode cX9_helpers 71 = .ok (.ishr, 1) := by decide +kernel
theorem dX9_helpers_72 : decode cX9_helpers 72 = .ok (.iconst 1, 1) := by decide +kernel
theorem dX9_helpers_73 : decode cX9_helpers 73 = .ok (.iand, 1) := by decide +kernel
theorem dX9_helpers_74 : decode cX9_helpers 74 = .ok (.iconst 1, 1) := by decide +kernel
theorem dX9_helpers_75 : decode cX9_helpers 75 = .ok (.if_icmp .ne 6, 3) := by decide +kernel
theorem dX9_helpers_78 : decode cX9_helpers 78 = .ok (.iload 4, 2) := by decide +kernel
theorem dX9_helpers_80 : decode cX9_helpers 80 = .ok (.istore_n 3, 1) := by decide +kernel
theorem dX9_helpers_81 : decode cX9_helpers 81 = .ok (.iinc 4 1, 3) := by decide +kernel
theorem dX9_helpers_84 : decode cX9_helpers 84 = .ok (.goto (-51), 3) := by decide +kernel
theorem dX9_helpers_87 : decode cX9_helpers 87 = .ok (.iload_n 3, 1) := by decide +kernel
theorem dX9_helpers_88 : decode cX9_helpers 88 = .ok (.ireturn, 1) := by decide +kernel
theorem dX9_usual_0 : decode cX9_usual 0 = .ok (.aload_n 0, 1) := by decide +kernel
theorem dX9_usual_1 : decode cX9_usual 1 = .ok (.iconst 0, 1) := by decide +kernel
theorem dX9_usual_2 : decode cX9_usual 2 = .ok (.putfield 130, 3) := by decide +kernel
theorem dX9_usual_5 : decode cX9_usual 5 = .ok (.aload_n 0, 1) := by decide +kernel
theorem dX9_usual_6 : decode cX9_usual 6 = .ok (.iload_n 1, 1) := by decide +kernel
theorem dX9_usual_7 : decode cX9_usual 7 = .ok (.invokevirtual 347, 3) := by decide +kernel
theorem dX9_usual_10 : decode cX9_usual 10 = .ok (.ifCond .ne 5, 3) := by decide +kernel
theorem dX9_usual_13 : decode cX9_usual 13 = .ok (.iconst (-1), 1) := by decide +kernel
theorem dX9_usual_14 : decode cX9_usual 14 = .ok (.ireturn, 1) := by decide +kernel
theorem dX9_usual_15 : decode cX9_usual 15 = .ok (.iconst (-1), 1) := by decide +kernel
theorem dX9_usual_16 : decode cX9_usual 16 = .ok (.istore_n 2, 1) := by decide +kernel
theorem dX9_usual_17 : decode cX9_usual 17 = .ok (.iconst 0, 1) := by decide +kernel
theorem dX9_usual_18 : decode cX9_usual 18 = .ok (.istore_n 3, 1) := by decide +kernel
theorem dX9_usual_19 : decode cX9_usual 19 = .ok (.iconst 0, 1) := by decide +kernel
theorem dX9_usual_20 : decode cX9_usual 20 = .ok (.istore 4, 2) := by decide +kernel
theorem dX9_usual_22 : decode cX9_usual 22 = .ok (.iload 4, 2) := by decide +kernel
theorem dX9_usual_24 : decode cX9_usual 24 = .ok (.aload_n 0, 1) := by decide +kernel
theorem dX9_usual_25 : decode cX9_usual 25 = .ok (.getfield 13, 3) := by decide +kernel
theorem dX9_usual_28 : decode cX9_usual 28 = .ok (.iconst 0, 1) := by decide +kernel
theorem dX9_usual_29 : decode cX9_usual 29 = .ok (.iaload, 1) := by decide +kernel
theorem dX9_usual_30 : decode cX9_usual 30 = .ok (.if_icmp .ge 50, 3) := by decide +kernel
theorem dX9_usual_33 : decode cX9_usual 33 = .ok (.aload_n 0, 1) := by decide +kernel
theorem dX9_usual_34 : decode cX9_usual 34 = .ok (.getfield 93, 3) := by decide +kernel
theorem dX9_usual_37 : decode cX9_usual 37 = .ok (.bipush 22, 2) := by decide +kernel
theorem dX9_usual_39 : decode cX9_usual 39 = .ok (.bipush 6, 2) := by decide +kernel
theorem dX9_usual_41 : decode cX9_usual 41 = .ok (.iload_n 1, 1) := by decide +kernel
theorem dX9_usual_42 : decode cX9_usual 42 = .ok (.imul, 1) := by decide +kernel
theorem dX9_usual_43 : decode cX9_usual 43 = .ok (.iadd, 1) := by decide +kernel
theorem dX9_usual_44 : decode cX9_usual 44 = .ok (.iload 4, 2) := by decide +kernel
theorem dX9_usual_46 : decode cX9_usual 46 = .ok (.iadd, 1) := by decide +kernel
theorem dX9_usual_47 : decode cX9_usual 47 = .ok (.iaload, 1) := by decide +kernel
theorem dX9_usual_48 : decode cX9_usual 48 = .ok (.iload_n 3, 1) := by decide +kernel
theorem dX9_usual_49 : decode cX9_usual 49 = .ok (.if_icmp .gt 6, 3) := by decide +kernel
theorem dX9_usual_52 : decode cX9_usual 52 = .ok (.goto 22, 3) := by decide +kernel
theorem dX9_usual_55 : decode cX9_usual 55 = .ok (.iload 4, 2) := by decide +kernel
theorem dX9_usual_57 : decode cX9_usual 57 = .ok (.istore_n 2, 1) := by decide +kernel
theorem dX9_usual_58 : decode cX9_usual 58 = .ok (.aload_n 0, 1) := by decide +kernel
theorem dX9_usual_59 : decode cX9_usual 59 = .ok (.getfield 93, 3) := by decide +kernel
theorem dX9_usual_62 : decode cX9_usual 62 = .ok (.bipush 22, 2) := by decide +kernel
theorem dX9_usual_64 : decode cX9_usual 64 = .ok (.bipush 6, 2) := by decide +kernel
theorem dX9_usual_66 : decode cX9_usual 66 = .ok (.iload_n 1, 1) := by decide +kernel
theorem dX9_usual_67 : decode cX9_usual 67 = .ok (.imul, 1) := by decide +kernel
theorem dX9_usual_68 : decode cX9_usual 68 = .ok (.iadd, 1) := by decide +kernel
theorem dX9_usual_69 : decode cX9_usual 69 = .ok (.iload 4, 2) := by decide +kernel
theorem dX9_usual_71 : decode cX9_usual 71 = .ok (.iadd, 1) := by decide +kernel
theorem dX9_usual_72 : decode cX9_usual 72 = .ok (.iaload, 1) := by decide +kernel
theorem dX9_usual_73 : decode cX9_usual 73 = .ok (.istore_n 3, 1) := by decide +kernel
theorem dX9_usual_74 : decode cX9_usual 74 = .ok (.iinc 4 1, 3) := by decide +kernel
theorem dX9_usual_77 : decode cX9_usual 77 = .ok (.goto (-55), 3) := by decide +kernel
theorem dX9_usual_80 : decode cX9_usual 80 = .ok (.iload_n 2, 1) := by decide +kernel
theorem dX9_usual_81 : decode cX9_usual 81 = .ok (.ireturn, 1) := by decide +kernel
theorem dX9_lost_0 : decode cX9_lost 0 = .ok (.aload_n 0, 1) := by decide +kernel
theorem dX9_lost_1 : decode cX9_lost 1 = .ok (.iconst 0, 1) := by decide +kernel
theorem dX9_lost_2 : decode cX9_lost 2 = .ok (.putfield 130, 3) := by decide +kernel
theorem dX9_lost_5 : decode cX9_lost 5 = .ok (.aload_n 0, 1) := by decide +kernel
theorem dX9_lost_6 : decode cX9_lost 6 = .ok (.invokevirtual 408, 3) := by decide +kernel
theorem dX9_lost_9 : decode cX9_lost 9 = .ok (.istore_n 1, 1) := by decide +kernel
theorem dX9_lost_10 : decode cX9_lost 10 = .ok (.iconst 0, 1) := by decide +kernel
theorem dX9_lost_11 : decode cX9_lost 11 = .ok (.istore_n 2, 1) := by decide +kernel
theorem dX9_lost_12 : decode cX9_lost 12 = .ok (.iconst 0, 1) := by decide +kernel
theorem dX9_lost_13 : decode cX9_lost 13 = .ok (.istore_n 3, 1) := by decide +kernel
theorem dX9_lost_14 : decode cX9_lost 14 = .ok (.iload_n 3, 1) := by decide +kernel
theorem dX9_lost_15 : decode cX9_lost 15 = .ok (.aload_n 0, 1) := by decide +kernel
theorem dX9_lost_16 : decode cX9_lost 16 = .ok (.getfield 13, 3) := by decide +kernel
theorem dX9_lost_19 : decode cX9_lost 19 = .ok (.iconst 0, 1) := by decide +kernel
theorem dX9_lost_20 : decode cX9_lost 20 = .ok (.iaload, 1) := by decide +kernel
theorem dX9_lost_21 : decode cX9_lost 21 = .ok (.if_icmp .ge 34, 3) := by decide +kernel
theorem dX9_lost_24 : decode cX9_lost 24 = .ok (.iload_n 2, 1) := by decide +kernel
theorem dX9_lost_25 : decode cX9_lost 25 = .ok (.iload_n 1, 1) := by decide +kernel
theorem dX9_lost_26 : decode cX9_lost 26 = .ok (.iload_n 3, 1) := by decide +kernel
theorem dX9_lost_27 : decode cX9_lost 27 = .ok (.ishr, 1) := by decide +kernel
theorem dX9_lost_28 : decode cX9_lost 28 = .ok (.iconst 1, 1) := by decide +kernel
theorem dX9_lost_29 : decode cX9_lost 29 = .ok (.iand, 1) := by decide +kernel
theorem dX9_lost_30 : decode cX9_lost 30 = .ok (.iconst 1, 1) := by decide +kernel
theorem dX9_lost_31 : decode cX9_lost 31 = .ok (.if_icmp .ne 15, 3) := by decide +kernel
theorem dX9_lost_34 : decode cX9_lost 34 = .ok (.aload_n 0, 1) := by decide +kernel
theorem dX9_lost_35 : decode cX9_lost 35 = .ok (.getfield 93, 3) := by decide +kernel
theorem dX9_lost_38 : decode cX9_lost 38 = .ok (.bipush 16, 2) := by decide +kernel
theorem dX9_lost_40 : decode cX9_lost 40 = .ok (.iload_n 3, 1) := by decide +kernel
theorem dX9_lost_41 : decode cX9_lost 41 = .ok (.iadd, 1) := by decide +kernel
theorem dX9_lost_42 : decode cX9_lost 42 = .ok (.iaload, 1) := by decide +kernel
theorem dX9_lost_43 : decode cX9_lost 43 = .ok (.goto 4, 3) := by decide +kernel
theorem dX9_lost_46 : decode cX9_lost 46 = .ok (.iconst 0, 1) := by decide +kernel
theorem dX9_lost_47 : decode cX9_lost 47 = .ok (.ior, 1) := by decide +kernel
theorem dX9_lost_48 : decode cX9_lost 48 = .ok (.istore_n 2, 1) := by decide +kernel
theorem dX9_lost_49 : decode cX9_lost 49 = .ok (.iinc 3 1, 3) := by decide +kernel
theorem dX9_lost_52 : decode cX9_lost 52 = .ok (.goto (-38), 3) := by decide +kernel
theorem dX9_lost_55 : decode cX9_lost 55 = .ok (.iconst 0, 1) := by decide +kernel
theorem dX9_lost_56 : decode cX9_lost 56 = .ok (.istore_n 3, 1) := by decide +kernel
theorem dX9_lost_57 : decode cX9_lost 57 = .ok (.iconst 0, 1) := by decide +kernel
theorem dX9_lost_58 : decode cX9_lost 58 = .ok (.istore 4, 2) := by decide +kernel
theorem dX9_lost_60 : decode cX9_lost 60 = .ok (.iload 4, 2) := by decide +kernel
theorem dX9_lost_62 : decode cX9_lost 62 = .ok (.aload_n 0, 1) := by decide +kernel
theorem dX9_lost_63 : decode cX9_lost 63 = .ok (.getfield 13, 3) := by decide +kernel
theorem dX9_lost_66 : decode cX9_lost 66 = .ok (.iconst 0, 1) := by decide +kernel
theorem dX9_lost_67 : decode cX9_lost 67 = .ok (.iaload, 1) := by decide +kernel
theorem dX9_lost_68 : decode cX9_lost 68 = .ok (.if_icmp .ge 44, 3) := by decide +kernel
theorem dX9_lost_71 : decode cX9_lost 71 = .ok (.iload_n 3, 1) := by decide +kernel
theorem dX9_lost_72 : decode cX9_lost 72 = .ok (.iload_n 1, 1) := by decide +kernel
theorem dX9_lost_73 : decode cX9_lost 73 = .ok (.iload 4, 2) := by decide +kernel
theorem dX9_lost_75 : decode cX9_lost 75 = .ok (.ishr, 1) := by decide +kernel
theorem dX9_lost_76 : decode cX9_lost 76 = .ok (.iconst 1, 1) := by decide +kernel
theorem dX9_lost_77 : decode cX9_lost 77 = .ok (.iand, 1) := by decide +kernel
theorem dX9_lost_78 : decode cX9_lost 78 = .ok (.iconst 1, 1) := by decide +kernel
theorem dX9_lost_79 : decode cX9_lost 79 = .ok (.if_icmp .ne 24, 3) := by decide +kernel
theorem dX9_lost_82 : decode cX9_lost 82 = .ok (.iload_n 2, 1) := by decide +kernel
theorem dX9_lost_83 : decode cX9_lost 83 = .ok (.aload_n 0, 1) := by decide +kernel
theorem dX9_lost_84 : decode cX9_lost 84 = .ok (.getfield 23, 3) := by decide +kernel
theorem dX9_lost_87 : decode cX9_lost 87 = .ok (.iload 4, 2) := by decide +kernel
theorem dX9_lost_89 : decode cX9_lost 89 = .ok (.iaload, 1) := by decide +kernel
theorem dX9_lost_90 : decode cX9_lost 90 = .ok (.ishr, 1) := by decide +kernel
theorem dX9_lost_91 : decode cX9_lost 91 = .ok (.iconst 1, 1) := by decide +kernel
theorem dX9_lost_92 : decode cX9_lost 92 = .ok (.iand, 1) := by decide +kernel
theorem dX9_lost_93 : decode cX9_lost 93 = .ok (.ifCond .ne 10, 3) := by decide +kernel
theorem dX9_lost_96 : decode cX9_lost 96 = .ok (.iconst 1, 1) := by decide +kernel
theorem dX9_lost_97 : decode cX9_lost 97 = .ok (.iload 4, 2) := by decide +kernel
theorem dX9_lost_99 : decode cX9_lost 99 = .ok (.ishl, 1) := by decide +kernel
theorem dX9_lost_100 : decode cX9_lost 100 = .ok (.goto 4, 3) := by decide +kernel
theorem dX9_lost_103 : decode cX9_lost 103 = .ok (.iconst 0, 1) := by decide +kernel
theorem dX9_lost_104 : decode cX9_lost 104 = .ok (.ior, 1) := by decide +kernel
theorem dX9_lost_105 : decode cX9_lost 105 = .ok (.istore_n 3, 1) := by decide +kernel
theorem dX9_lost_106 : decode cX9_lost 106 = .ok (.iinc 4 1, 3) := by decide +kernel
theorem dX9_lost_109 : decode cX9_lost 109 = .ok (.goto (-49), 3) := by decide +kernel
theorem dX9_lost_112 : decode cX9_lost 112 = .ok (.iload_n 3, 1) := by decide +kernel
theorem dX9_lost_113 : decode cX9_lost 113 = .ok (.ireturn, 1) := by decide +kernel
theorem dX9_wisest_0 : decode cX9_wisest 0 = .ok (.aload_n 0, 1) := by decide +kernel
theorem dX9_wisest_1 : decode cX9_wisest 1 = .ok (.iconst 0, 1) := by decide +kernel
theorem dX9_wisest_2 : decode cX9_wisest 2 = .ok (.putfield 130, 3) := by decide +kernel
theorem dX9_wisest_5 : decode cX9_wisest 5 = .ok (.iconst (-1), 1) := by decide +kernel
theorem dX9_wisest_6 : decode cX9_wisest 6 = .ok (.istore_n 1, 1) := by decide +kernel
theorem dX9_wisest_7 : decode cX9_wisest 7 = .ok (.iconst 0, 1) := by decide +kernel
theorem dX9_wisest_8 : decode cX9_wisest 8 = .ok (.istore_n 2, 1) := by decide +kernel
theorem dX9_wisest_9 : decode cX9_wisest 9 = .ok (.iload_n 2, 1) := by decide +kernel
theorem dX9_wisest_10 : decode cX9_wisest 10 = .ok (.aload_n 0, 1) := by decide +kernel
theorem dX9_wisest_11 : decode cX9_wisest 11 = .ok (.getfield 13, 3) := by decide +kernel
theorem dX9_wisest_14 : decode cX9_wisest 14 = .ok (.iconst 0, 1) := by decide +kernel
theorem dX9_wisest_15 : decode cX9_wisest 15 = .ok (.iaload, 1) := by decide +kernel
theorem dX9_wisest_16 : decode cX9_wisest 16 = .ok (.if_icmp .ge 42, 3) := by decide +kernel
theorem dX9_wisest_19 : decode cX9_wisest 19 = .ok (.iload_n 1, 1) := by decide +kernel
theorem dX9_wisest_20 : decode cX9_wisest 20 = .ok (.ifCond .lt 30, 3) := by decide +kernel
theorem dX9_wisest_23 : decode cX9_wisest 23 = .ok (.aload_n 0, 1) := by decide +kernel
theorem dX9_wisest_24 : decode cX9_wisest 24 = .ok (.getfield 93, 3) := by decide +kernel
theorem dX9_wisest_27 : decode cX9_wisest 27 = .ok (.bipush 16, 2) := by decide +kernel
theorem dX9_wisest_29 : decode cX9_wisest 29 = .ok (.iload_n 2, 1) := by decide +kernel
theorem dX9_wisest_30 : decode cX9_wisest 30 = .ok (.iadd, 1) := by decide +kernel
theorem dX9_wisest_31 : decode cX9_wisest 31 = .ok (.iaload, 1) := by decide +kernel
theorem dX9_wisest_32 : decode cX9_wisest 32 = .ok (.invokestatic 322, 3) := by decide +kernel
theorem dX9_wisest_35 : decode cX9_wisest 35 = .ok (.aload_n 0, 1) := by decide +kernel
theorem dX9_wisest_36 : decode cX9_wisest 36 = .ok (.getfield 93, 3) := by decide +kernel
theorem dX9_wisest_39 : decode cX9_wisest 39 = .ok (.bipush 16, 2) := by decide +kernel
theorem dX9_wisest_41 : decode cX9_wisest 41 = .ok (.iload_n 1, 1) := by decide +kernel
theorem dX9_wisest_42 : decode cX9_wisest 42 = .ok (.iadd, 1) := by decide +kernel
theorem dX9_wisest_43 : decode cX9_wisest 43 = .ok (.iaload, 1) := by decide +kernel
theorem dX9_wisest_44 : decode cX9_wisest 44 = .ok (.invokestatic 322, 3) := by decide +kernel
theorem dX9_wisest_47 : decode cX9_wisest 47 = .ok (.if_icmp .le 5, 3) := by decide +kernel
theorem dX9_wisest_50 : decode cX9_wisest 50 = .ok (.iload_n 2, 1) := by decide +kernel
theorem dX9_wisest_51 : decode cX9_wisest 51 = .ok (.istore_n 1, 1) := by decide +kernel
theorem dX9_wisest_52 : decode cX9_wisest 52 = .ok (.iinc 2 1, 3) := by decide +kernel
theorem dX9_wisest_55 : decode cX9_wisest 55 = .ok (.goto (-46), 3) := by decide +kernel
theorem dX9_wisest_58 : decode cX9_wisest 58 = .ok (.iload_n 1, 1) := by decide +kernel
theorem dX9_wisest_59 : decode cX9_wisest 59 = .ok (.ireturn, 1) := by decide +kernel
theorem dX9_tell_0 : decode cX9_tell 0 = .ok (.aload_n 0, 1) := by decide +kernel
theorem dX9_tell_1 : decode cX9_tell 1 = .ok (.iconst 0, 1) := by decide +kernel
theorem dX9_tell_2 : decode cX9_tell 2 = .ok (.putfield 130, 3) := by decide +kernel
theorem dX9_tell_5 : decode cX9_tell 5 = .ok (.aload_n 0, 1) := by decide +kernel
theorem dX9_tell_6 : decode cX9_tell 6 = .ok (.iload_n 1, 1) := by decide +kernel
theorem dX9_tell_7 : decode cX9_tell 7 = .ok (.invokevirtual 347, 3) := by decide +kernel
theorem dX9_tell_10 : decode cX9_tell 10 = .ok (.ifCond .ne 5, 3) := by decide +kernel
theorem dX9_tell_13 : decode cX9_tell 13 = .ok (.iconst 0, 1) := by decide +kernel
theorem dX9_tell_14 : decode cX9_tell 14 = .ok (.ireturn, 1) := by decide +kernel
theorem dX9_tell_15 : decode cX9_tell 15 = .ok (.aload_n 0, 1) := by decide +kernel
theorem dX9_tell_16 : decode cX9_tell 16 = .ok (.getfield 90, 3) := by decide +kernel
theorem dX9_tell_19 : decode cX9_tell 19 = .ok (.iload_n 1, 1) := by decide +kernel
theorem dX9_tell_20 : decode cX9_tell 20 = .ok (.iload_n 2, 1) := by decide +kernel
theorem dX9_tell_21 : decode cX9_tell 21 = .ok (.ifCond .eq 7, 3) := by decide +kernel
theorem dX9_tell_24 : decode cX9_tell 24 = .ok (.iconst 1, 1) := by decide +kernel
theorem dX9_tell_25 : decode cX9_tell 25 = .ok (.goto 4, 3) := by decide +kernel
theorem dX9_tell_28 : decode cX9_tell 28 = .ok (.iconst 0, 1) := by decide +kernel
theorem dX9_tell_29 : decode cX9_tell 29 = .ok (.iastore, 1) := by decide +kernel
theorem dX9_tell_30 : decode cX9_tell 30 = .ok (.iconst 1, 1) := by decide +kernel
theorem dX9_tell_31 : decode cX9_tell 31 = .ok (.ireturn, 1) := by decide +kernel
theorem dX9_isAsTold_0 : decode cX9_isAsTold 0 = .ok (.iconst 0, 1) := by decide +kernel
theorem dX9_isAsTold_1 : decode cX9_isAsTold 1 = .ok (.istore_n 2, 1) := by decide +kernel
theorem dX9_isAsTold_2 : decode cX9_isAsTold 2 = .ok (.iload_n 2, 1) := by decide +kernel
theorem dX9_isAsTold_3 : decode cX9_isAsTold 3 = .ok (.aload_n 0, 1) := by decide +kernel
theorem dX9_isAsTold_4 : decode cX9_isAsTold 4 = .ok (.getfield 13, 3) := by decide +kernel
theorem dX9_isAsTold_7 : decode cX9_isAsTold 7 = .ok (.iconst 0, 1) := by decide +kernel
theorem dX9_isAsTold_8 : decode cX9_isAsTold 8 = .ok (.iaload, 1) := by decide +kernel
theorem dX9_isAsTold_9 : decode cX9_isAsTold 9 = .ok (.if_icmp .ge 34, 3) := by decide +kernel
theorem dX9_isAsTold_12 : decode cX9_isAsTold 12 = .ok (.aload_n 0, 1) := by decide +kernel
theorem dX9_isAsTold_13 : decode cX9_isAsTold 13 = .ok (.getfield 90, 3) := by decide +kernel
theorem dX9_isAsTold_16 : decode cX9_isAsTold 16 = .ok (.iload_n 2, 1) := by decide +kernel
theorem dX9_isAsTold_17 : decode cX9_isAsTold 17 = .ok (.iaload, 1) := by decide +kernel
theorem dX9_isAsTold_18 : decode cX9_isAsTold 18 = .ok (.ifCond .lt 19, 3) := by decide +kernel
theorem dX9_isAsTold_21 : decode cX9_isAsTold 21 = .ok (.iload_n 1, 1) := by decide +kernel
theorem dX9_isAsTold_22 : decode cX9_isAsTold 22 = .ok (.iload_n 2, 1) := by decide +kernel
theorem dX9_isAsTold_23 : decode cX9_isAsTold 23 = .ok (.ishr, 1) := by decide +kernel
theorem dX9_isAsTold_24 : decode cX9_isAsTold 24 = .ok (.iconst 1, 1) := by decide +kernel
theorem dX9_isAsTold_25 : decode cX9_isAsTold 25 = .ok (.iand, 1) := by decide +kernel
theorem dX9_isAsTold_26 : decode cX9_isAsTold 26 = .ok (.aload_n 0, 1) := by decide +kernel
theorem dX9_isAsTold_27 : decode cX9_isAsTold 27 = .ok (.getfield 90, 3) := by decide +kernel
theorem dX9_isAsTold_30 : decode cX9_isAsTold 30 = .ok (.iload_n 2, 1) := by decide +kernel
theorem dX9_isAsTold_31 : decode cX9_isAsTold 31 = .ok (.iaload, 1) := by decide +kernel
theorem dX9_isAsTold_32 : decode cX9_isAsTold 32 = .ok (.if_icmp .eq 5, 3) := by decide +kernel
theorem dX9_isAsTold_35 : decode cX9_isAsTold 35 = .ok (.iconst 0, 1) := by decide +kernel
theorem dX9_isAsTold_36 : decode cX9_isAsTold 36 = .ok (.ireturn, 1) := by decide +kernel
theorem dX9_isAsTold_37 : decode cX9_isAsTold 37 = .ok (.iinc 2 1, 3) := by decide +kernel
theorem dX9_isAsTold_40 : decode cX9_isAsTold 40 = .ok (.goto (-38), 3) := by decide +kernel
theorem dX9_isAsTold_43 : decode cX9_isAsTold 43 = .ok (.iconst 1, 1) := by decide +kernel
theorem dX9_isAsTold_44 : decode cX9_isAsTold 44 = .ok (.ireturn, 1) := by decide +kernel
theorem dX9_laysSettled_0 : decode cX9_laysSettled 0 = .ok (.iconst 0, 1) := by decide +kernel
theorem dX9_laysSettled_1 : decode cX9_laysSettled 1 = .ok (.istore_n 2, 1) := by decide +kernel
theorem dX9_laysSettled_2 : decode cX9_laysSettled 2 = .ok (.iload_n 2, 1) := by decide +kernel
theorem dX9_laysSettled_3 : decode cX9_laysSettled 3 = .ok (.iload_n 1, 1) := by decide +kernel
theorem dX9_laysSettled_4 : decode cX9_laysSettled 4 = .ok (.if_icmp .gt 32, 3) := by decide +kernel
theorem dX9_laysSettled_7 : decode cX9_laysSettled 7 = .ok (.aload_n 0, 1) := by decide +kernel
theorem dX9_laysSettled_8 : decode cX9_laysSettled 8 = .ok (.getfield 120, 3) := by decide +kernel
theorem dX9_laysSettled_11 : decode cX9_laysSettled 11 = .ok (.iload_n 2, 1) := by decide +kernel
theorem dX9_laysSettled_12 : decode cX9_laysSettled 12 = .ok (.iload_n 2, 1) := by decide +kernel
theorem dX9_laysSettled_13 : decode cX9_laysSettled 13 = .ok (.iload_n 1, 1) := by decide +kernel
theorem dX9_laysSettled_14 : decode cX9_laysSettled 14 = .ok (.iconst (-1), 1) := by decide +kernel
theorem dX9_laysSettled_15 : decode cX9_laysSettled 15 = .ok (.ixor, 1) := by decide +kernel
theorem dX9_laysSettled_16 : decode cX9_laysSettled 16 = .ok (.iand, 1) := by decide +kernel
theorem dX9_laysSettled_17 : decode cX9_laysSettled 17 = .ok (.ifCond .ne 11, 3) := by decide +kernel
theorem dX9_laysSettled_20 : decode cX9_laysSettled 20 = .ok (.aload_n 0, 1) := by decide +kernel
theorem dX9_laysSettled_21 : decode cX9_laysSettled 21 = .ok (.iload_n 2, 1) := by decide +kernel
theorem dX9_laysSettled_22 : decode cX9_laysSettled 22 = .ok (.invokevirtual 405, 3) := by decide +kernel
theorem dX9_laysSettled_25 : decode cX9_laysSettled 25 = .ok (.goto 4, 3) := by decide +kernel
theorem dX9_laysSettled_28 : decode cX9_laysSettled 28 = .ok (.iconst 0, 1) := by decide +kernel
theorem dX9_laysSettled_29 : decode cX9_laysSettled 29 = .ok (.iastore, 1) := by decide +kernel
theorem dX9_laysSettled_30 : decode cX9_laysSettled 30 = .ok (.iinc 2 1, 3) := by decide +kernel
theorem dX9_laysSettled_33 : decode cX9_laysSettled 33 = .ok (.goto (-31), 3) := by decide +kernel
theorem dX9_laysSettled_36 : decode cX9_laysSettled 36 = .ok (.return_, 1) := by decide +kernel
theorem dX9_sets_0 : decode cX9_sets 0 = .ok (.aload_n 0, 1) := by decide +kernel
theorem dX9_sets_1 : decode cX9_sets 1 = .ok (.iconst 0, 1) := by decide +kernel
theorem dX9_sets_2 : decode cX9_sets 2 = .ok (.putfield 130, 3) := by decide +kernel
theorem dX9_sets_5 : decode cX9_sets 5 = .ok (.iload_n 1, 1) := by decide +kernel
theorem dX9_sets_6 : decode cX9_sets 6 = .ok (.iconst 0, 1) := by decide +kernel
theorem dX9_sets_7 : decode cX9_sets 7 = .ok (.iconst 2, 1) := by decide +kernel
theorem dX9_sets_8 : decode cX9_sets 8 = .ok (.invokestatic 244, 3) := by decide +kernel
theorem dX9_sets_11 : decode cX9_sets 11 = .ok (.ifCond .ne 5, 3) := by decide +kernel
theorem dX9_sets_14 : decode cX9_sets 14 = .ok (.iconst (-1), 1) := by decide +kernel
theorem dX9_sets_15 : decode cX9_sets 15 = .ok (.ireturn, 1) := by decide +kernel
theorem dX9_sets_16 : decode cX9_sets 16 = .ok (.aload_n 0, 1) := by decide +kernel
theorem dX9_sets_17 : decode cX9_sets 17 = .ok (.invokevirtual 402, 3) := by decide +kernel
theorem dX9_sets_20 : decode cX9_sets 20 = .ok (.istore_n 2, 1) := by decide +kernel
theorem dX9_sets_21 : decode cX9_sets 21 = .ok (.aload_n 0, 1) := by decide +kernel
theorem dX9_sets_22 : decode cX9_sets 22 = .ok (.iload_n 2, 1) := by decide +kernel
theorem dX9_sets_23 : decode cX9_sets 23 = .ok (.invokevirtual 411, 3) := by decide +kernel
theorem dX9_sets_26 : decode cX9_sets 26 = .ok (.iconst 0, 1) := by decide +kernel
theorem dX9_sets_27 : decode cX9_sets 27 = .ok (.istore_n 3, 1) := by decide +kernel
theorem dX9_sets_28 : decode cX9_sets 28 = .ok (.iload_n 2, 1) := by decide +kernel
theorem dX9_sets_29 : decode cX9_sets 29 = .ok (.istore 4, 2) := by decide +kernel
theorem dX9_sets_31 : decode cX9_sets 31 = .ok (.iconst 0, 1) := by decide +kernel
theorem dX9_sets_32 : decode cX9_sets 32 = .ok (.istore 5, 2) := by decide +kernel
theorem dX9_sets_34 : decode cX9_sets 34 = .ok (.iconst 0, 1) := by decide +kernel
theorem dX9_sets_35 : decode cX9_sets 35 = .ok (.istore 6, 2) := by decide +kernel
theorem dX9_sets_37 : decode cX9_sets 37 = .ok (.iload 6, 2) := by decide +kernel
theorem dX9_sets_39 : decode cX9_sets 39 = .ok (.iload_n 2, 1) := by decide +kernel
theorem dX9_sets_40 : decode cX9_sets 40 = .ok (.if_icmp .gt 52, 3) := by decide +kernel
theorem dX9_sets_43 : decode cX9_sets 43 = .ok (.iload 6, 2) := by decide +kernel
theorem dX9_sets_45 : decode cX9_sets 45 = .ok (.iload_n 2, 1) := by decide +kernel
theorem dX9_sets_46 : decode cX9_sets 46 = .ok (.iconst (-1), 1) := by decide +kernel
theorem dX9_sets_47 : decode cX9_sets 47 = .ok (.ixor, 1) := by decide +kernel
theorem dX9_sets_48 : decode cX9_sets 48 = .ok (.iand, 1) := by decide +kernel
theorem dX9_sets_49 : decode cX9_sets 49 = .ok (.ifCond .ne 37, 3) := by decide +kernel
theorem dX9_sets_52 : decode cX9_sets 52 = .ok (.aload_n 0, 1) := by decide +kernel
theorem dX9_sets_53 : decode cX9_sets 53 = .ok (.aload_n 0, 1) := by decide +kernel
theorem dX9_sets_54 : decode cX9_sets 54 = .ok (.getfield 120, 3) := by decide +kernel
theorem dX9_sets_57 : decode cX9_sets 57 = .ok (.iload 6, 2) := by decide +kernel
theorem dX9_sets_59 : decode cX9_sets 59 = .ok (.iaload, 1) := by decide +kernel
theorem dX9_sets_60 : decode cX9_sets 60 = .ok (.invokevirtual 414, 3) := by decide +kernel
theorem dX9_sets_63 : decode cX9_sets 63 = .ok (.ifCond .ne 6, 3) := by decide +kernel
theorem dX9_sets_66 : decode cX9_sets 66 = .ok (.goto 20, 3) := by decide +kernel
theorem dX9_sets_69 : decode cX9_sets 69 = .ok (.iinc 3 1, 3) := by decide +kernel
theorem dX9_sets_72 : decode cX9_sets 72 = .ok (.iload 4, 2) := by decide +kernel
theorem dX9_sets_74 : decode cX9_sets 74 = .ok (.iload 6, 2) := by decide +kernel
theorem dX9_sets_76 : decode cX9_sets 76 = .ok (.iand, 1) := by decide +kernel
theorem dX9_sets_77 : decode cX9_sets 77 = .ok (.istore 4, 2) := by decide +kernel
theorem dX9_sets_79 : decode cX9_sets 79 = .ok (.iload 5, 2) := by decide +kernel
theorem dX9_sets_81 : decode cX9_sets 81 = .ok (.iload 6, 2) := by decide +kernel
theorem dX9_sets_83 : decode cX9_sets 83 = .ok (.ior, 1) := by decide +kernel
theorem dX9_sets_84 : decode cX9_sets 84 = .ok (.istore 5, 2) := by decide +kernel
theorem dX9_sets_86 : decode cX9_sets 86 = .ok (.iinc 6 1, 3) := by decide +kernel
theorem dX9_sets_89 : decode cX9_sets 89 = .ok (.goto (-52), 3) := by decide +kernel
theorem dX9_sets_92 : decode cX9_sets 92 = .ok (.iload_n 3, 1) := by decide +kernel
theorem dX9_sets_93 : decode cX9_sets 93 = .ok (.ifCond .eq 7, 3) := by decide +kernel
theorem dX9_sets_96 : decode cX9_sets 96 = .ok (.iload_n 1, 1) := by decide +kernel
theorem dX9_sets_97 : decode cX9_sets 97 = .ok (.ifCond .ne 13, 3) := by decide +kernel
theorem dX9_sets_100 : decode cX9_sets 100 = .ok (.iload_n 1, 1) := by decide +kernel
theorem dX9_sets_101 : decode cX9_sets 101 = .ok (.ifCond .ne 7, 3) := by decide +kernel
theorem dX9_sets_104 : decode cX9_sets 104 = .ok (.iload_n 3, 1) := by decide +kernel
theorem dX9_sets_105 : decode cX9_sets 105 = .ok (.goto 4, 3) := by decide +kernel
theorem dX9_sets_108 : decode cX9_sets 108 = .ok (.iconst (-1), 1) := by decide +kernel
theorem dX9_sets_109 : decode cX9_sets 109 = .ok (.ireturn, 1) := by decide +kernel
theorem dX9_sets_110 : decode cX9_sets 110 = .ok (.iload_n 1, 1) := by decide +kernel
theorem dX9_sets_111 : decode cX9_sets 111 = .ok (.iconst 1, 1) := by decide +kernel
theorem dX9_sets_112 : decode cX9_sets 112 = .ok (.if_icmp .ne 8, 3) := by decide +kernel
theorem dX9_sets_115 : decode cX9_sets 115 = .ok (.iload 4, 2) := by decide +kernel
theorem dX9_sets_117 : decode cX9_sets 117 = .ok (.goto 5, 3) := by decide +kernel
theorem dX9_sets_120 : decode cX9_sets 120 = .ok (.iload 5, 2) := by decide +kernel
theorem dX9_sets_122 : decode cX9_sets 122 = .ok (.ireturn, 1) := by decide +kernel
theorem dX9_ask_0 : decode cX9_ask 0 = .ok (.aload_n 0, 1) := by decide +kernel
theorem dX9_ask_1 : decode cX9_ask 1 = .ok (.iconst 0, 1) := by decide +kernel
theorem dX9_ask_2 : decode cX9_ask 2 = .ok (.putfield 130, 3) := by decide +kernel
theorem dX9_ask_5 : decode cX9_ask 5 = .ok (.aload_n 0, 1) := by decide +kernel
theorem dX9_ask_6 : decode cX9_ask 6 = .ok (.invokevirtual 402, 3) := by decide +kernel
theorem dX9_ask_9 : decode cX9_ask 9 = .ok (.istore_n 1, 1) := by decide +kernel
theorem dX9_ask_10 : decode cX9_ask 10 = .ok (.aload_n 0, 1) := by decide +kernel
theorem dX9_ask_11 : decode cX9_ask 11 = .ok (.iconst 0, 1) := by decide +kernel
theorem dX9_ask_12 : decode cX9_ask 12 = .ok (.invokevirtual 417, 3) := by decide +kernel
theorem dX9_ask_15 : decode cX9_ask 15 = .ok (.istore_n 2, 1) := by decide +kernel
theorem dX9_ask_16 : decode cX9_ask 16 = .ok (.iload_n 2, 1) := by decide +kernel
theorem dX9_ask_17 : decode cX9_ask 17 = .ok (.istore_n 3, 1) := by decide +kernel
theorem dX9_ask_18 : decode cX9_ask 18 = .ok (.iconst (-1), 1) := by decide +kernel
theorem dX9_ask_19 : decode cX9_ask 19 = .ok (.istore 4, 2) := by decide +kernel
theorem dX9_ask_21 : decode cX9_ask 21 = .ok (.iconst 0, 1) := by decide +kernel
theorem dX9_ask_22 : decode cX9_ask 22 = .ok (.istore 5, 2) := by decide +kernel
theorem dX9_ask_24 : decode cX9_ask 24 = .ok (.iload 5, 2) := by decide +kernel
theorem dX9_ask_26 : decode cX9_ask 26 = .ok (.aload_n 0, 1) := by decide +kernel
theorem dX9_ask_27 : decode cX9_ask 27 = .ok (.getfield 13, 3) := by decide +kernel
theorem dX9_ask_30 : decode cX9_ask 30 = .ok (.iconst 0, 1) := by decide +kernel
theorem dX9_ask_31 : decode cX9_ask 31 = .ok (.iaload, 1) := by decide +kernel
theorem dX9_ask_32 : decode cX9_ask 32 = .ok (.if_icmp .ge 111, 3) := by decide +kernel
theorem dX9_ask_35 : decode cX9_ask 35 = .ok (.aload_n 0, 1) := by decide +kernel
theorem dX9_ask_36 : decode cX9_ask 36 = .ok (.getfield 90, 3) := by decide +kernel
theorem dX9_ask_39 : decode cX9_ask 39 = .ok (.iload 5, 2) := by decide +kernel
theorem dX9_ask_41 : decode cX9_ask 41 = .ok (.iaload, 1) := by decide +kernel
theorem dX9_ask_42 : decode cX9_ask 42 = .ok (.ifCond .lt 6, 3) := by decide +kernel
theorem dX9_ask_45 : decode cX9_ask 45 = .ok (.goto 92, 3) := by decide +kernel
theorem dX9_ask_48 : decode cX9_ask 48 = .ok (.iconst 0, 1) := by decide +kernel
theorem dX9_ask_49 : decode cX9_ask 49 = .ok (.istore 6, 2) := by decide +kernel
theorem dX9_ask_51 : decode cX9_ask 51 = .ok (.iconst 0, 1) := by decide +kernel
theorem dX9_ask_52 : decode cX9_ask 52 = .ok (.istore 7, 2) := by decide +kernel
theorem dX9_ask_54 : decode cX9_ask 54 = .ok (.iload 7, 2) := by decide +kernel
theorem dX9_ask_56 : decode cX9_ask 56 = .ok (.iload_n 1, 1) := by decide +kernel
theorem dX9_ask_57 : decode cX9_ask 57 = .ok (.if_icmp .gt 53, 3) := by decide +kernel
theorem dX9_ask_60 : decode cX9_ask 60 = .ok (.iload 6, 2) := by decide +kernel
theorem dX9_ask_62 : decode cX9_ask 62 = .ok (.iload 7, 2) := by decide +kernel
theorem dX9_ask_64 : decode cX9_ask 64 = .ok (.iload_n 1, 1) := by decide +kernel
theorem dX9_ask_65 : decode cX9_ask 65 = .ok (.iconst (-1), 1) := by decide +kernel
theorem dX9_ask_66 : decode cX9_ask 66 = .ok (.ixor, 1) := by decide +kernel
theorem dX9_ask_67 : decode cX9_ask 67 = .ok (.iand, 1) := by decide +kernel
theorem dX9_ask_68 : decode cX9_ask 68 = .ok (.ifCond .ne 32, 3) := by decide +kernel
theorem dX9_ask_71 : decode cX9_ask 71 = .ok (.aload_n 0, 1) := by decide +kernel
theorem dX9_ask_72 : decode cX9_ask 72 = .ok (.aload_n 0, 1) := by decide +kernel
theorem dX9_ask_73 : decode cX9_ask 73 = .ok (.getfield 120, 3) := by decide +kernel
theorem dX9_ask_76 : decode cX9_ask 76 = .ok (.iload 7, 2) := by decide +kernel
theorem dX9_ask_78 : decode cX9_ask 78 = .ok (.iaload, 1) := by decide +kernel
theorem dX9_ask_79 : decode cX9_ask 79 = .ok (.invokevirtual 414, 3) := by decide +kernel
theorem dX9_ask_82 : decode cX9_ask 82 = .ok (.ifCond .eq 18, 3) := by decide +kernel
theorem dX9_ask_85 : decode cX9_ask 85 = .ok (.aload_n 0, 1) := by decide +kernel
theorem dX9_ask_86 : decode cX9_ask 86 = .ok (.getfield 120, 3) := by decide +kernel
theorem dX9_ask_89 : decode cX9_ask 89 = .ok (.iload 7, 2) := by decide +kernel
theorem dX9_ask_91 : decode cX9_ask 91 = .ok (.iaload, 1) := by decide +kernel
theorem dX9_ask_92 : decode cX9_ask 92 = .ok (.iload 5, 2) := by decide +kernel
theorem dX9_ask_94 : decode cX9_ask 94 = .ok (.ishr, 1) := by decide +kernel
theorem dX9_ask_95 : decode cX9_ask 95 = .ok (.iconst 1, 1) := by decide +kernel
theorem dX9_ask_96 : decode cX9_ask 96 = .ok (.iand, 1) := by decide +kernel
theorem dX9_ask_97 : decode cX9_ask 97 = .ok (.goto 4, 3) := by decide +kernel
theorem dX9_ask_100 : decode cX9_ask 100 = .ok (.iconst 0, 1) := by decide +kernel
theorem dX9_ask_101 : decode cX9_ask 101 = .ok (.iadd, 1) := by decide +kernel
theorem dX9_ask_102 : decode cX9_ask 102 = .ok (.istore 6, 2) := by decide +kernel
theorem dX9_ask_104 : decode cX9_ask 104 = .ok (.iinc 7 1, 3) := by decide +kernel
theorem dX9_ask_107 : decode cX9_ask 107 = .ok (.goto (-53), 3) := by decide +kernel
theorem dX9_ask_110 : decode cX9_ask 110 = .ok (.iload 6, 2) := by decide +kernel
theorem dX9_ask_112 : decode cX9_ask 112 = .ok (.iload_n 2, 1) := by decide +kernel
theorem dX9_ask_113 : decode cX9_ask 113 = .ok (.iload 6, 2) := by decide +kernel
theorem dX9_ask_115 : decode cX9_ask 115 = .ok (.isub, 1) := by decide +kernel
theorem dX9_ask_116 : decode cX9_ask 116 = .ok (.invokestatic 420, 3) := by decide +kernel
theorem dX9_ask_119 : decode cX9_ask 119 = .ok (.istore 6, 2) := by decide +kernel
theorem dX9_ask_121 : decode cX9_ask 121 = .ok (.iload 6, 2) := by decide +kernel
theorem dX9_ask_123 : decode cX9_ask 123 = .ok (.iload_n 3, 1) := by decide +kernel
theorem dX9_ask_124 : decode cX9_ask 124 = .ok (.if_icmp .lt 6, 3) := by decide +kernel
theorem dX9_ask_127 : decode cX9_ask 127 = .ok (.goto 10, 3) := by decide +kernel
theorem dX9_ask_130 : decode cX9_ask 130 = .ok (.iload 6, 2) := by decide +kernel
theorem dX9_ask_132 : decode cX9_ask 132 = .ok (.istore_n 3, 1) := by decide +kernel
theorem dX9_ask_133 : decode cX9_ask 133 = .ok (.iload 5, 2) := by decide +kernel
theorem dX9_ask_135 : decode cX9_ask 135 = .ok (.istore 4, 2) := by decide +kernel
theorem dX9_ask_137 : decode cX9_ask 137 = .ok (.iinc 5 1, 3) := by decide +kernel
theorem dX9_ask_140 : decode cX9_ask 140 = .ok (.goto (-116), 3) := by decide +kernel
theorem dX9_ask_143 : decode cX9_ask 143 = .ok (.iload 4, 2) := by decide +kernel
theorem dX9_ask_145 : decode cX9_ask 145 = .ok (.ireturn, 1) := by decide +kernel
theorem dX9_shuffles_0 : decode cX9_shuffles 0 = .ok (.iload_n 2, 1) := by decide +kernel
theorem dX9_shuffles_1 : decode cX9_shuffles 1 = .ok (.ifCond .ne 88, 3) := by decide +kernel
theorem dX9_shuffles_4 : decode cX9_shuffles 4 = .ok (.aload_n 0, 1) := by decide +kernel
theorem dX9_shuffles_5 : decode cX9_shuffles 5 = .ok (.getfield 93, 3) := by decide +kernel
theorem dX9_shuffles_8 : decode cX9_shuffles 8 = .ok (.iconst 0, 1) := by decide +kernel
theorem dX9_shuffles_9 : decode cX9_shuffles 9 = .ok (.aload_n 0, 1) := by decide +kernel
theorem dX9_shuffles_10 : decode cX9_shuffles 10 = .ok (.getfield 99, 3) := by decide +kernel
theorem dX9_shuffles_13 : decode cX9_shuffles 13 = .ok (.iconst 0, 1) := by decide +kernel
theorem dX9_shuffles_14 : decode cX9_shuffles 14 = .ok (.invokestatic 350, 3) := by decide +kernel
theorem dX9_shuffles_17 : decode cX9_shuffles 17 = .ok (.iconst 0, 1) := by decide +kernel
theorem dX9_shuffles_18 : decode cX9_shuffles 18 = .ok (.istore 4, 2) := by decide +kernel
theorem dX9_shuffles_20 : decode cX9_shuffles 20 = .ok (.iload 4, 2) := by decide +kernel
theorem dX9_shuffles_22 : decode cX9_shuffles 22 = .ok (.iload_n 1, 1) := by decide +kernel
theorem dX9_shuffles_23 : decode cX9_shuffles 23 = .ok (.if_icmp .ge 25, 3) := by decide +kernel
theorem dX9_shuffles_26 : decode cX9_shuffles 26 = .ok (.aload_n 0, 1) := by decide +kernel
theorem dX9_shuffles_27 : decode cX9_shuffles 27 = .ok (.getfield 93, 3) := by decide +kernel
theorem dX9_shuffles_30 : decode cX9_shuffles 30 = .ok (.iconst 4, 1) := by decide +kernel
theorem dX9_shuffles_31 : decode cX9_shuffles 31 = .ok (.iload 4, 2) := by decide +kernel
theorem dX9_shuffles_33 : decode cX9_shuffles 33 = .ok (.iadd, 1) := by decide +kernel
theorem dX9_shuffles_34 : decode cX9_shuffles 34 = .ok (.aload_n 0, 1) := by decide +kernel
theorem dX9_shuffles_35 : decode cX9_shuffles 35 = .ok (.getfield 114, 3) := by decide +kernel
theorem dX9_shuffles_38 : decode cX9_shuffles 38 = .ok (.iload 4, 2) := by decide +kernel
theorem dX9_shuffles_40 : decode cX9_shuffles 40 = .ok (.iaload, 1) := by decide +kernel
theorem dX9_shuffles_41 : decode cX9_shuffles 41 = .ok (.iastore, 1) := by decide +kernel
theorem dX9_shuffles_42 : decode cX9_shuffles 42 = .ok (.iinc 4 1, 3) := by decide +kernel
theorem dX9_shuffles_45 : decode cX9_shuffles 45 = .ok (.goto (-25), 3) := by decide +kernel
theorem dX9_shuffles_48 : decode cX9_shuffles 48 = .ok (.aload_n 0, 1) := by decide +kernel
theorem dX9_shuffles_49 : decode cX9_shuffles 49 = .ok (.dup, 1) := by decide +kernel
theorem dX9_shuffles_50 : decode cX9_shuffles 50 = .ok (.getfield 426, 3) := by decide +kernel
theorem dX9_shuffles_53 : decode cX9_shuffles 53 = .ok (.iconst 1, 1) := by decide +kernel
theorem dX9_shuffles_54 : decode cX9_shuffles 54 = .ok (.iadd, 1) := by decide +kernel
theorem dX9_shuffles_55 : decode cX9_shuffles 55 = .ok (.putfield 426, 3) := by decide +kernel
theorem dX9_shuffles_58 : decode cX9_shuffles 58 = .ok (.aload_n 0, 1) := by decide +kernel
theorem dX9_shuffles_59 : decode cX9_shuffles 59 = .ok (.dup, 1) := by decide +kernel
theorem dX9_shuffles_60 : decode cX9_shuffles 60 = .ok (.getfield 429, 3) := by decide +kernel
theorem dX9_shuffles_63 : decode cX9_shuffles 63 = .ok (.aload_n 0, 1) := by decide +kernel
theorem dX9_shuffles_64 : decode cX9_shuffles 64 = .ok (.invokevirtual 369, 3) := by decide +kernel
theorem dX9_shuffles_67 : decode cX9_shuffles 67 = .ok (.iload_n 3, 1) := by decide +kernel
theorem dX9_shuffles_68 : decode cX9_shuffles 68 = .ok (.ishr, 1) := by decide +kernel
theorem dX9_shuffles_69 : decode cX9_shuffles 69 = .ok (.iconst 1, 1) := by decide +kernel
theorem dX9_shuffles_70 : decode cX9_shuffles 70 = .ok (.iand, 1) := by decide +kernel
theorem dX9_shuffles_71 : decode cX9_shuffles 71 = .ok (.iadd, 1) := by decide +kernel
theorem dX9_shuffles_72 : decode cX9_shuffles 72 = .ok (.putfield 429, 3) := by decide +kernel
theorem dX9_shuffles_75 : decode cX9_shuffles 75 = .ok (.aload_n 0, 1) := by decide +kernel
theorem dX9_shuffles_76 : decode cX9_shuffles 76 = .ok (.getfield 99, 3) := by decide +kernel
theorem dX9_shuffles_79 : decode cX9_shuffles 79 = .ok (.iconst 0, 1) := by decide +kernel
theorem dX9_shuffles_80 : decode cX9_shuffles 80 = .ok (.aload_n 0, 1) := by decide +kernel
theorem dX9_shuffles_81 : decode cX9_shuffles 81 = .ok (.getfield 93, 3) := by decide +kernel
theorem dX9_shuffles_84 : decode cX9_shuffles 84 = .ok (.iconst 0, 1) := by decide +kernel
theorem dX9_shuffles_85 : decode cX9_shuffles 85 = .ok (.invokestatic 350, 3) := by decide +kernel
theorem dX9_shuffles_88 : decode cX9_shuffles 88 = .ok (.return_, 1) := by decide +kernel
theorem dX9_shuffles_89 : decode cX9_shuffles 89 = .ok (.iconst 0, 1) := by decide +kernel
theorem dX9_shuffles_90 : decode cX9_shuffles 90 = .ok (.istore 4, 2) := by decide +kernel
theorem dX9_shuffles_92 : decode cX9_shuffles 92 = .ok (.iload 4, 2) := by decide +kernel
theorem dX9_shuffles_94 : decode cX9_shuffles 94 = .ok (.aload_n 0, 1) := by decide +kernel
theorem dX9_shuffles_95 : decode cX9_shuffles 95 = .ok (.getfield 13, 3) := by decide +kernel
theorem dX9_shuffles_98 : decode cX9_shuffles 98 = .ok (.iconst 0, 1) := by decide +kernel
theorem dX9_shuffles_99 : decode cX9_shuffles 99 = .ok (.iaload, 1) := by decide +kernel
theorem dX9_shuffles_100 : decode cX9_shuffles 100 = .ok (.if_icmp .ge 45, 3) := by decide +kernel
theorem dX9_shuffles_103 : decode cX9_shuffles 103 = .ok (.iload_n 2, 1) := by decide +kernel
theorem dX9_shuffles_104 : decode cX9_shuffles 104 = .ok (.iload 4, 2) := by decide +kernel
theorem dX9_shuffles_106 : decode cX9_shuffles 106 = .ok (.ishr, 1) := by decide +kernel
theorem dX9_shuffles_107 : decode cX9_shuffles 107 = .ok (.iconst 1, 1) := by decide +kernel
theorem dX9_shuffles_108 : decode cX9_shuffles 108 = .ok (.iand, 1) := by decide +kernel
theorem dX9_shuffles_109 : decode cX9_shuffles 109 = .ok (.ifCond .ne 6, 3) := by decide +kernel
theorem dX9_shuffles_112 : decode cX9_shuffles 112 = .ok (.goto 27, 3) := by decide +kernel
theorem dX9_shuffles_115 : decode cX9_shuffles 115 = .ok (.aload_n 0, 1) := by decide +kernel
theorem dX9_shuffles_116 : decode cX9_shuffles 116 = .ok (.getfield 114, 3) := by decide +kernel
theorem dX9_shuffles_119 : decode cX9_shuffles 119 = .ok (.iload_n 1, 1) := by decide +kernel
theorem dX9_shuffles_120 : decode cX9_shuffles 120 = .ok (.iload 4, 2) := by decide +kernel
theorem dX9_shuffles_122 : decode cX9_shuffles 122 = .ok (.iastore, 1) := by decide +kernel
theorem dX9_shuffles_123 : decode cX9_shuffles 123 = .ok (.aload_n 0, 1) := by decide +kernel
theorem dX9_shuffles_124 : decode cX9_shuffles 124 = .ok (.iload_n 1, 1) := by decide +kernel
theorem dX9_shuffles_125 : decode cX9_shuffles 125 = .ok (.iconst 1, 1) := by decide +kernel
theorem dX9_shuffles_126 : decode cX9_shuffles 126 = .ok (.iadd, 1) := by decide +kernel
theorem dX9_shuffles_127 : decode cX9_shuffles 127 = .ok (.iload_n 2, 1) := by decide +kernel
theorem dX9_shuffles_128 : decode cX9_shuffles 128 = .ok (.iconst 1, 1) := by decide +kernel
theorem dX9_shuffles_129 : decode cX9_shuffles 129 = .ok (.iload 4, 2) := by decide +kernel
theorem dX9_shuffles_131 : decode cX9_shuffles 131 = .ok (.ishl, 1) := by decide +kernel
theorem dX9_shuffles_132 : decode cX9_shuffles 132 = .ok (.iconst (-1), 1) := by decide +kernel
theorem dX9_shuffles_133 : decode cX9_shuffles 133 = .ok (.ixor, 1) := by decide +kernel
theorem dX9_shuffles_134 : decode cX9_shuffles 134 = .ok (.iand, 1) := by decide +kernel
theorem dX9_shuffles_135 : decode cX9_shuffles 135 = .ok (.iload_n 3, 1) := by decide +kernel
theorem dX9_shuffles_136 : decode cX9_shuffles 136 = .ok (.invokevirtual 432, 3) := by decide +kernel
theorem dX9_shuffles_139 : decode cX9_shuffles 139 = .ok (.iinc 4 1, 3) := by decide +kernel
theorem dX9_shuffles_142 : decode cX9_shuffles 142 = .ok (.goto (-50), 3) := by decide +kernel
theorem dX9_shuffles_145 : decode cX9_shuffles 145 = .ok (.return_, 1) := by decide +kernel
theorem dX9_chance_0 : decode cX9_chance 0 = .ok (.aload_n 0, 1) := by decide +kernel
theorem dX9_chance_1 : decode cX9_chance 1 = .ok (.iconst 0, 1) := by decide +kernel
theorem dX9_chance_2 : decode cX9_chance 2 = .ok (.putfield 130, 3) := by decide +kernel
theorem dX9_chance_5 : decode cX9_chance 5 = .ok (.aload_n 0, 1) := by decide +kernel
theorem dX9_chance_6 : decode cX9_chance 6 = .ok (.iload_n 1, 1) := by decide +kernel
theorem dX9_chance_7 : decode cX9_chance 7 = .ok (.invokevirtual 347, 3) := by decide +kernel
theorem dX9_chance_10 : decode cX9_chance 10 = .ok (.ifCond .eq 11, 3) := by decide +kernel
theorem dX9_chance_13 : decode cX9_chance 13 = .ok (.aload_n 0, 1) := by decide +kernel
theorem dX9_chance_14 : decode cX9_chance 14 = .ok (.iload_n 1, 1) := by decide +kernel
theorem dX9_chance_15 : decode cX9_chance 15 = .ok (.invokevirtual 319, 3) := by decide +kernel
theorem dX9_chance_18 : decode cX9_chance 18 = .ok (.ifCond .ge 5, 3) := by decide +kernel
theorem dX9_chance_21 : decode cX9_chance 21 = .ok (.iconst (-1), 1) := by decide +kernel
theorem dX9_chance_22 : decode cX9_chance 22 = .ok (.ireturn, 1) := by decide +kernel
theorem dX9_chance_23 : decode cX9_chance 23 = .ok (.aload_n 0, 1) := by decide +kernel
theorem dX9_chance_24 : decode cX9_chance 24 = .ok (.iconst 0, 1) := by decide +kernel
theorem dX9_chance_25 : decode cX9_chance 25 = .ok (.putfield 426, 3) := by decide +kernel
theorem dX9_chance_28 : decode cX9_chance 28 = .ok (.aload_n 0, 1) := by decide +kernel
theorem dX9_chance_29 : decode cX9_chance 29 = .ok (.iconst 0, 1) := by decide +kernel
theorem dX9_chance_30 : decode cX9_chance 30 = .ok (.putfield 429, 3) := by decide +kernel
theorem dX9_chance_33 : decode cX9_chance 33 = .ok (.aload_n 0, 1) := by decide +kernel
theorem dX9_chance_34 : decode cX9_chance 34 = .ok (.iconst 0, 1) := by decide +kernel
theorem dX9_chance_35 : decode cX9_chance 35 = .ok (.aload_n 0, 1) := by decide +kernel
theorem dX9_chance_36 : decode cX9_chance 36 = .ok (.invokevirtual 408, 3) := by decide +kernel
theorem dX9_chance_39 : decode cX9_chance 39 = .ok (.iload_n 1, 1) := by decide +kernel
theorem dX9_chance_40 : decode cX9_chance 40 = .ok (.invokevirtual 432, 3) := by decide +kernel
theorem dX9_chance_43 : decode cX9_chance 43 = .ok (.aload_n 0, 1) := by decide +kernel
theorem dX9_chance_44 : decode cX9_chance 44 = .ok (.getfield 429, 3) := by decide +kernel
theorem dX9_chance_47 : decode cX9_chance 47 = .ok (.i2l, 1) := by decide +kernel
theorem dX9_chance_48 : decode cX9_chance 48 = .ok (.ldc2_w 435, 3) := by decide +kernel
theorem dX9_chance_51 : decode cX9_chance 51 = .ok (.lmul, 1) := by decide +kernel
theorem dX9_chance_52 : decode cX9_chance 52 = .ok (.aload_n 0, 1) := by decide +kernel
theorem dX9_chance_53 : decode cX9_chance 53 = .ok (.getfield 426, 3) := by decide +kernel
theorem dX9_chance_56 : decode cX9_chance 56 = .ok (.i2l, 1) := by decide +kernel
theorem dX9_chance_57 : decode cX9_chance 57 = .ok (.ldiv, 1) := by decide +kernel
theorem dX9_chance_58 : decode cX9_chance 58 = .ok (.l2i, 1) := by decide +kernel
theorem dX9_chance_59 : decode cX9_chance 59 = .ok (.ireturn, 1) := by decide +kernel
theorem dX9_deals_0 : decode cX9_deals 0 = .ok (.iload_n 2, 1) := by decide +kernel
theorem dX9_deals_1 : decode cX9_deals 1 = .ok (.ifCond .ne 109, 3) := by decide +kernel
theorem dX9_deals_4 : decode cX9_deals 4 = .ok (.aload_n 0, 1) := by decide +kernel
theorem dX9_deals_5 : decode cX9_deals 5 = .ok (.getfield 93, 3) := by decide +kernel
theorem dX9_deals_8 : decode cX9_deals 8 = .ok (.iconst 0, 1) := by decide +kernel
theorem dX9_deals_9 : decode cX9_deals 9 = .ok (.aload_n 0, 1) := by decide +kernel
theorem dX9_deals_10 : decode cX9_deals 10 = .ok (.getfield 99, 3) := by decide +kernel
theorem dX9_deals_13 : decode cX9_deals 13 = .ok (.iconst 0, 1) := by decide +kernel
theorem dX9_deals_14 : decode cX9_deals 14 = .ok (.invokestatic 350, 3) := by decide +kernel
theorem dX9_deals_17 : decode cX9_deals 17 = .ok (.iconst 0, 1) := by decide +kernel
theorem dX9_deals_18 : decode cX9_deals 18 = .ok (.istore_n 3, 1) := by decide +kernel
theorem dX9_deals_19 : decode cX9_deals 19 = .ok (.iload_n 3, 1) := by decide +kernel
theorem dX9_deals_20 : decode cX9_deals 20 = .ok (.iload_n 1, 1) := by decide +kernel
theorem dX9_deals_21 : decode cX9_deals 21 = .ok (.if_icmp .ge 23, 3) := by decide +kernel
theorem dX9_deals_24 : decode cX9_deals 24 = .ok (.aload_n 0, 1) := by decide +kernel
theorem dX9_deals_25 : decode cX9_deals 25 = .ok (.getfield 93, 3) := by decide +kernel
theorem dX9_deals_28 : decode cX9_deals 28 = .ok (.iconst 4, 1) := by decide +kernel
theorem dX9_deals_29 : decode cX9_deals 29 = .ok (.iload_n 3, 1) := by decide +kernel
theorem dX9_deals_30 : decode cX9_deals 30 = .ok (.iadd, 1) := by decide +kernel
theorem dX9_deals_31 : decode cX9_deals 31 = .ok (.aload_n 0, 1) := by decide +kernel
theorem dX9_deals_32 : decode cX9_deals 32 = .ok (.getfield 114, 3) := by decide +kernel
theorem dX9_deals_35 : decode cX9_deals 35 = .ok (.iload_n 3, 1) := by decide +kernel
theorem dX9_deals_36 : decode cX9_deals 36 = .ok (.iaload, 1) := by decide +kernel
theorem dX9_deals_37 : decode cX9_deals 37 = .ok (.iastore, 1) := by decide +kernel
theorem dX9_deals_38 : decode cX9_deals 38 = .ok (.iinc 3 1, 3) := by decide +kernel
theorem dX9_deals_41 : decode cX9_deals 41 = .ok (.goto (-22), 3) := by decide +kernel
theorem dX9_deals_44 : decode cX9_deals 44 = .ok (.aload_n 0, 1) := by decide +kernel
theorem dX9_deals_45 : decode cX9_deals 45 = .ok (.invokevirtual 369, 3) := by decide +kernel
theorem dX9_deals_48 : decode cX9_deals 48 = .ok (.invokestatic 322, 3) := by decide +kernel
theorem dX9_deals_51 : decode cX9_deals 51 = .ok (.istore_n 3, 1) := by decide +kernel
theorem dX9_deals_52 : decode cX9_deals 52 = .ok (.aload_n 0, 1) := by decide +kernel
theorem dX9_deals_53 : decode cX9_deals 53 = .ok (.getfield 99, 3) := by decide +kernel
theorem dX9_deals_56 : decode cX9_deals 56 = .ok (.iconst 0, 1) := by decide +kernel
theorem dX9_deals_57 : decode cX9_deals 57 = .ok (.aload_n 0, 1) := by decide +kernel
theorem dX9_deals_58 : decode cX9_deals 58 = .ok (.getfield 93, 3) := by decide +kernel
theorem dX9_deals_61 : decode cX9_deals 61 = .ok (.iconst 0, 1) := by decide +kernel
theorem dX9_deals_62 : decode cX9_deals 62 = .ok (.invokestatic 350, 3) := by decide +kernel
theorem dX9_deals_65 : decode cX9_deals 65 = .ok (.iload_n 3, 1) := by decide +kernel
theorem dX9_deals_66 : decode cX9_deals 66 = .ok (.aload_n 0, 1) := by decide +kernel
theorem dX9_deals_67 : decode cX9_deals 67 = .ok (.getfield 437, 3) := by decide +kernel
theorem dX9_deals_70 : decode cX9_deals 70 = .ok (.if_icmp .gt 4, 3) := by decide +kernel
theorem dX9_deals_73 : decode cX9_deals 73 = .ok (.return_, 1) := by decide +kernel
theorem dX9_deals_74 : decode cX9_deals 74 = .ok (.aload_n 0, 1) := by decide +kernel
theorem dX9_deals_75 : decode cX9_deals 75 = .ok (.iload_n 3, 1) := by decide +kernel
theorem dX9_deals_76 : decode cX9_deals 76 = .ok (.putfield 437, 3) := by decide +kernel
theorem dX9_deals_79 : decode cX9_deals 79 = .ok (.iconst 0, 1) := by decide +kernel
theorem dX9_deals_80 : decode cX9_deals 80 = .ok (.istore 4, 2) := by decide +kernel
theorem dX9_deals_82 : decode cX9_deals 82 = .ok (.iload 4, 2) := by decide +kernel
theorem dX9_deals_84 : decode cX9_deals 84 = .ok (.bipush 6, 2) := by decide +kernel
theorem dX9_deals_86 : decode cX9_deals 86 = .ok (.if_icmp .ge 23, 3) := by decide +kernel
theorem dX9_deals_89 : decode cX9_deals 89 = .ok (.aload_n 0, 1) := by decide +kernel
theorem dX9_deals_90 : decode cX9_deals 90 = .ok (.getfield 117, 3) := by decide +kernel
theorem dX9_deals_93 : decode cX9_deals 93 = .ok (.iload 4, 2) := by decide +kernel
theorem dX9_deals_95 : decode cX9_deals 95 = .ok (.aload_n 0, 1) := by decide +kernel
theorem dX9_deals_96 : decode cX9_deals 96 = .ok (.getfield 114, 3) := by decide +kernel
theorem dX9_deals_99 : decode cX9_deals 99 = .ok (.iload 4, 2) := by decide +kernel
theorem dX9_deals_101 : decode cX9_deals 101 = .ok (.iaload, 1) := by decide +kernel
theorem dX9_deals_102 : decode cX9_deals 102 = .ok (.iastore, 1) := by decide +kernel
theorem dX9_deals_103 : decode cX9_deals 103 = .ok (.iinc 4 1, 3) := by decide +kernel
theorem dX9_deals_106 : decode cX9_deals 106 = .ok (.goto (-24), 3) := by decide +kernel
theorem dX9_deals_109 : decode cX9_deals 109 = .ok (.return_, 1) := by decide +kernel
theorem dX9_deals_110 : decode cX9_deals 110 = .ok (.iconst 0, 1) := by decide +kernel
theorem dX9_deals_111 : decode cX9_deals 111 = .ok (.istore_n 3, 1) := by decide +kernel
theorem dX9_deals_112 : decode cX9_deals 112 = .ok (.iload_n 3, 1) := by decide +kernel
theorem dX9_deals_113 : decode cX9_deals 113 = .ok (.aload_n 0, 1) := by decide +kernel
theorem dX9_deals_114 : decode cX9_deals 114 = .ok (.getfield 13, 3) := by decide +kernel
theorem dX9_deals_117 : decode cX9_deals 117 = .ok (.iconst 0, 1) := by decide +kernel
theorem dX9_deals_118 : decode cX9_deals 118 = .ok (.iaload, 1) := by decide +kernel
theorem dX9_deals_119 : decode cX9_deals 119 = .ok (.if_icmp .ge 41, 3) := by decide +kernel
theorem dX9_deals_122 : decode cX9_deals 122 = .ok (.iload_n 2, 1) := by decide +kernel
theorem dX9_deals_123 : decode cX9_deals 123 = .ok (.iload_n 3, 1) := by decide +kernel
theorem dX9_deals_124 : decode cX9_deals 124 = .ok (.ishr, 1) := by decide +kernel
theorem dX9_deals_125 : decode cX9_deals 125 = .ok (.iconst 1, 1) := by decide +kernel
theorem dX9_deals_126 : decode cX9_deals 126 = .ok (.iand, 1) := by decide +kernel
theorem dX9_deals_127 : decode cX9_deals 127 = .ok (.ifCond .ne 6, 3) := by decide +kernel
theorem dX9_deals_130 : decode cX9_deals 130 = .ok (.goto 24, 3) := by decide +kernel
theorem dX9_deals_133 : decode cX9_deals 133 = .ok (.aload_n 0, 1) := by decide +kernel
theorem dX9_deals_134 : decode cX9_deals 134 = .ok (.getfield 114, 3) := by decide +kernel
theorem dX9_deals_137 : decode cX9_deals 137 = .ok (.iload_n 1, 1) := by decide +kernel
theorem dX9_deals_138 : decode cX9_deals 138 = .ok (.iload_n 3, 1) := by decide +kernel
theorem dX9_deals_139 : decode cX9_deals 139 = .ok (.iastore, 1) := by decide +kernel
theorem dX9_deals_140 : decode cX9_deals 140 = .ok (.aload_n 0, 1) := by decide +kernel
theorem dX9_deals_141 : decode cX9_deals 141 = .ok (.iload_n 1, 1) := by decide +kernel
theorem dX9_deals_142 : decode cX9_deals 142 = .ok (.iconst 1, 1) := by decide +kernel
theorem dX9_deals_143 : decode cX9_deals 143 = .ok (.iadd, 1) := by decide +kernel
theorem dX9_deals_144 : decode cX9_deals 144 = .ok (.iload_n 2, 1) := by decide +kernel
theorem dX9_deals_145 : decode cX9_deals 145 = .ok (.iconst 1, 1) := by decide +kernel
theorem dX9_deals_146 : decode cX9_deals 146 = .ok (.iload_n 3, 1) := by decide +kernel
theorem dX9_deals_147 : decode cX9_deals 147 = .ok (.ishl, 1) := by decide +kernel
theorem dX9_deals_148 : decode cX9_deals 148 = .ok (.iconst (-1), 1) := by decide +kernel
theorem dX9_deals_149 : decode cX9_deals 149 = .ok (.ixor, 1) := by decide +kernel
theorem dX9_deals_150 : decode cX9_deals 150 = .ok (.iand, 1) := by decide +kernel
theorem dX9_deals_151 : decode cX9_deals 151 = .ok (.invokevirtual 440, 3) := by decide +kernel
theorem dX9_deals_154 : decode cX9_deals 154 = .ok (.iinc 3 1, 3) := by decide +kernel
theorem dX9_deals_157 : decode cX9_deals 157 = .ok (.goto (-45), 3) := by decide +kernel
theorem dX9_deals_160 : decode cX9_deals 160 = .ok (.return_, 1) := by decide +kernel
theorem dX9_deal_0 : decode cX9_deal 0 = .ok (.aload_n 0, 1) := by decide +kernel
theorem dX9_deal_1 : decode cX9_deal 1 = .ok (.iconst 0, 1) := by decide +kernel
theorem dX9_deal_2 : decode cX9_deal 2 = .ok (.putfield 130, 3) := by decide +kernel
theorem dX9_deal_5 : decode cX9_deal 5 = .ok (.iload_n 1, 1) := by decide +kernel
theorem dX9_deal_6 : decode cX9_deal 6 = .ok (.iconst (-1), 1) := by decide +kernel
theorem dX9_deal_7 : decode cX9_deal 7 = .ok (.aload_n 0, 1) := by decide +kernel
theorem dX9_deal_8 : decode cX9_deal 8 = .ok (.getfield 93, 3) := by decide +kernel
theorem dX9_deal_11 : decode cX9_deal 11 = .ok (.iconst 1, 1) := by decide +kernel
theorem dX9_deal_12 : decode cX9_deal 12 = .ok (.iaload, 1) := by decide +kernel
theorem dX9_deal_13 : decode cX9_deal 13 = .ok (.iconst 1, 1) := by decide +kernel
theorem dX9_deal_14 : decode cX9_deal 14 = .ok (.isub, 1) := by decide +kernel
theorem dX9_deal_15 : decode cX9_deal 15 = .ok (.invokestatic 244, 3) := by decide +kernel
theorem dX9_deal_18 : decode cX9_deal 18 = .ok (.ifCond .ne 6, 3) := by decide +kernel
theorem dX9_deal_21 : decode cX9_deal 21 = .ok (.bipush (-2), 2) := by decide +kernel
theorem dX9_deal_23 : decode cX9_deal 23 = .ok (.ireturn, 1) := by decide +kernel
theorem dX9_deal_24 : decode cX9_deal 24 = .ok (.aload_n 0, 1) := by decide +kernel
theorem dX9_deal_25 : decode cX9_deal 25 = .ok (.iconst (-1), 1) := by decide +kernel
theorem dX9_deal_26 : decode cX9_deal 26 = .ok (.putfield 437, 3) := by decide +kernel
theorem dX9_deal_29 : decode cX9_deal 29 = .ok (.aload_n 0, 1) := by decide +kernel
theorem dX9_deal_30 : decode cX9_deal 30 = .ok (.iconst 0, 1) := by decide +kernel
theorem dX9_deal_31 : decode cX9_deal 31 = .ok (.aload_n 0, 1) := by decide +kernel
theorem dX9_deal_32 : decode cX9_deal 32 = .ok (.invokevirtual 408, 3) := by decide +kernel
theorem dX9_deal_35 : decode cX9_deal 35 = .ok (.invokevirtual 440, 3) := by decide +kernel
theorem dX9_deal_38 : decode cX9_deal 38 = .ok (.iload_n 1, 1) := by decide +kernel
theorem dX9_deal_39 : decode cX9_deal 39 = .ok (.iconst (-1), 1) := by decide +kernel
theorem dX9_deal_40 : decode cX9_deal 40 = .ok (.if_icmp .ne 10, 3) := by decide +kernel
theorem dX9_deal_43 : decode cX9_deal 43 = .ok (.aload_n 0, 1) := by decide +kernel
theorem dX9_deal_44 : decode cX9_deal 44 = .ok (.getfield 437, 3) := by decide +kernel
theorem dX9_deal_47 : decode cX9_deal 47 = .ok (.goto 9, 3) := by decide +kernel
theorem dX9_deal_50 : decode cX9_deal 50 = .ok (.aload_n 0, 1) := by decide +kernel
theorem dX9_deal_51 : decode cX9_deal 51 = .ok (.getfield 117, 3) := by decide +kernel
theorem dX9_deal_54 : decode cX9_deal 54 = .ok (.iload_n 1, 1) := by decide +kernel
theorem dX9_deal_55 : decode cX9_deal 55 = .ok (.iaload, 1) := by decide +kernel
theorem dX9_deal_56 : decode cX9_deal 56 = .ok (.ireturn, 1) := by decide +kernel
theorem dX9_getsBy_0 : decode cX9_getsBy 0 = .ok (.iload_n 3, 1) := by decide +kernel
theorem dX9_getsBy_1 : decode cX9_getsBy 1 = .ok (.iconst 1, 1) := by decide +kernel
theorem dX9_getsBy_2 : decode cX9_getsBy 2 = .ok (.if_icmp .ne 17, 3) := by decide +kernel
theorem dX9_getsBy_5 : decode cX9_getsBy 5 = .ok (.iload 4, 2) := by decide +kernel
theorem dX9_getsBy_7 : decode cX9_getsBy 7 = .ok (.iconst 1, 1) := by decide +kernel
theorem dX9_getsBy_8 : decode cX9_getsBy 8 = .ok (.if_icmp .ne 7, 3) := by decide +kernel
theorem dX9_getsBy_11 : decode cX9_getsBy 11 = .ok (.iload_n 0, 1) := by decide +kernel
theorem dX9_getsBy_12 : decode cX9_getsBy 12 = .ok (.goto 18, 3) := by decide +kernel
theorem dX9_getsBy_15 : decode cX9_getsBy 15 = .ok (.iload_n 1, 1) := by decide +kernel
theorem dX9_getsBy_16 : decode cX9_getsBy 16 = .ok (.goto 14, 3) := by decide +kernel
theorem dX9_getsBy_19 : decode cX9_getsBy 19 = .ok (.iload 4, 2) := by decide +kernel
theorem dX9_getsBy_21 : decode cX9_getsBy 21 = .ok (.iconst 1, 1) := by decide +kernel
theorem dX9_getsBy_22 : decode cX9_getsBy 22 = .ok (.if_icmp .ne 7, 3) := by decide +kernel
theorem dX9_getsBy_25 : decode cX9_getsBy 25 = .ok (.iload_n 2, 1) := by decide +kernel
theorem dX9_getsBy_26 : decode cX9_getsBy 26 = .ok (.goto 4, 3) := by decide +kernel
theorem dX9_getsBy_29 : decode cX9_getsBy 29 = .ok (.iconst 0, 1) := by decide +kernel
theorem dX9_getsBy_30 : decode cX9_getsBy 30 = .ok (.ireturn, 1) := by decide +kernel
theorem dX9_rests_0 : decode cX9_rests 0 = .ok (.aload_n 0, 1) := by decide +kernel
theorem dX9_rests_1 : decode cX9_rests 1 = .ok (.iload_n 1, 1) := by decide +kernel
theorem dX9_rests_2 : decode cX9_rests 2 = .ok (.iconst 0, 1) := by decide +kernel
theorem dX9_rests_3 : decode cX9_rests 3 = .ok (.bipush 9, 2) := by decide +kernel
theorem dX9_rests_5 : decode cX9_rests 5 = .ok (.invokestatic 244, 3) := by decide +kernel
theorem dX9_rests_8 : decode cX9_rests 8 = .ok (.ifCond .eq 33, 3) := by decide +kernel
theorem dX9_rests_11 : decode cX9_rests 11 = .ok (.iload_n 2, 1) := by decide +kernel
theorem dX9_rests_12 : decode cX9_rests 12 = .ok (.iconst 0, 1) := by decide +kernel
theorem dX9_rests_13 : decode cX9_rests 13 = .ok (.bipush 9, 2) := by decide +kernel
theorem dX9_rests_15 : decode cX9_rests 15 = .ok (.invokestatic 244, 3) := by decide +kernel
theorem dX9_rests_18 : decode cX9_rests 18 = .ok (.ifCond .eq 23, 3) := by decide +kernel
theorem dX9_rests_21 : decode cX9_rests 21 = .ok (.iload_n 3, 1) := by decide +kernel
theorem dX9_rests_22 : decode cX9_rests 22 = .ok (.iconst 0, 1) := by decide +kernel
theorem dX9_rests_23 : decode cX9_rests 23 = .ok (.bipush 9, 2) := by decide +kernel
theorem dX9_rests_25 : decode cX9_rests 25 = .ok (.invokestatic 244, 3) := by decide +kernel
theorem dX9_rests_28 : decode cX9_rests 28 = .ok (.ifCond .eq 13, 3) := by decide +kernel
theorem dX9_rests_31 : decode cX9_rests 31 = .ok (.iload 4, 2) := by decide +kernel
theorem dX9_rests_33 : decode cX9_rests 33 = .ok (.iconst (-1), 1) := by decide +kernel
theorem dX9_rests_34 : decode cX9_rests 34 = .ok (.if_icmp .lt 7, 3) := by decide +kernel
theorem dX9_rests_37 : decode cX9_rests 37 = .ok (.iconst 0, 1) := by decide +kernel
theorem dX9_rests_38 : decode cX9_rests 38 = .ok (.goto 4, 3) := by decide +kernel
theorem dX9_rests_41 : decode cX9_rests 41 = .ok (.iconst 1, 1) := by decide +kernel
theorem dX9_rests_42 : decode cX9_rests 42 = .ok (.putfield 130, 3) := by decide +kernel
theorem dX9_rests_45 : decode cX9_rests 45 = .ok (.aload_n 0, 1) := by decide +kernel
theorem dX9_rests_46 : decode cX9_rests 46 = .ok (.getfield 130, 3) := by decide +kernel
theorem dX9_rests_49 : decode cX9_rests 49 = .ok (.iconst 1, 1) := by decide +kernel
theorem dX9_rests_50 : decode cX9_rests 50 = .ok (.if_icmp .ne 5, 3) := by decide +kernel
theorem dX9_rests_53 : decode cX9_rests 53 = .ok (.iconst 0, 1) := by decide +kernel
theorem dX9_rests_54 : decode cX9_rests 54 = .ok (.ireturn, 1) := by decide +kernel
theorem dX9_rests_55 : decode cX9_rests 55 = .ok (.iconst 0, 1) := by decide +kernel
theorem dX9_rests_56 : decode cX9_rests 56 = .ok (.istore 5, 2) := by decide +kernel
theorem dX9_rests_58 : decode cX9_rests 58 = .ok (.iconst 0, 1) := by decide +kernel
theorem dX9_rests_59 : decode cX9_rests 59 = .ok (.istore 6, 2) := by decide +kernel
theorem dX9_rests_61 : decode cX9_rests 61 = .ok (.iload 6, 2) := by decide +kernel
theorem dX9_rests_63 : decode cX9_rests 63 = .ok (.iconst 4, 1) := by decide +kernel
theorem dX9_rests_64 : decode cX9_rests 64 = .ok (.if_icmp .ge 87, 3) := by decide +kernel
theorem dX9_rests_67 : decode cX9_rests 67 = .ok (.iload 6, 2) := by decide +kernel
theorem dX9_rests_69 : decode cX9_rests 69 = .ok (.iconst 2, 1) := by decide +kernel
theorem dX9_rests_70 : decode cX9_rests 70 = .ok (.idiv, 1) := by decide +kernel
theorem dX9_rests_71 : decode cX9_rests 71 = .ok (.istore 7, 2) := by decide +kernel
theorem dX9_rests_73 : decode cX9_rests 73 = .ok (.iload 6, 2) := by decide +kernel
theorem dX9_rests_75 : decode cX9_rests 75 = .ok (.iconst 2, 1) := by decide +kernel
theorem dX9_rests_76 : decode cX9_rests 76 = .ok (.irem, 1) := by decide +kernel
theorem dX9_rests_77 : decode cX9_rests 77 = .ok (.istore 8, 2) := by decide +kernel
theorem dX9_rests_79 : decode cX9_rests 79 = .ok (.iload_n 1, 1) := by decide +kernel
theorem dX9_rests_80 : decode cX9_rests 80 = .ok (.iload_n 2, 1) := by decide +kernel
theorem dX9_rests_81 : decode cX9_rests 81 = .ok (.iload_n 3, 1) := by decide +kernel
theorem dX9_rests_82 : decode cX9_rests 82 = .ok (.iconst 1, 1) := by decide +kernel
theorem dX9_rests_83 : decode cX9_rests 83 = .ok (.iload 7, 2) := by decide +kernel
theorem dX9_rests_85 : decode cX9_rests 85 = .ok (.isub, 1) := by decide +kernel
theorem dX9_rests_86 : decode cX9_rests 86 = .ok (.iload 8, 2) := by decide +kernel
theorem dX9_rests_88 : decode cX9_rests 88 = .ok (.invokestatic 443, 3) := by decide +kernel
theorem dX9_rests_91 : decode cX9_rests 91 = .ok (.iload_n 1, 1) := by decide +kernel
theorem dX9_rests_92 : decode cX9_rests 92 = .ok (.iload_n 2, 1) := by decide +kernel
theorem dX9_rests_93 : decode cX9_rests 93 = .ok (.iload_n 3, 1) := by decide +kernel
theorem dX9_rests_94 : decode cX9_rests 94 = .ok (.iload 7, 2) := by decide +kernel
theorem dX9_rests_96 : decode cX9_rests 96 = .ok (.iload 8, 2) := by decide +kernel
theorem dX9_rests_98 : decode cX9_rests 98 = .ok (.invokestatic 443, 3) := by decide +kernel
theorem dX9_rests_101 : decode cX9_rests 101 = .ok (.if_icmp .gt 44, 3) := by decide +kernel
theorem dX9_rests_104 : decode cX9_rests 104 = .ok (.iload_n 1, 1) := by decide +kernel
theorem dX9_rests_105 : decode cX9_rests 105 = .ok (.iload_n 2, 1) := by decide +kernel
theorem dX9_rests_106 : decode cX9_rests 106 = .ok (.iload_n 3, 1) := by decide +kernel
theorem dX9_rests_107 : decode cX9_rests 107 = .ok (.iconst 1, 1) := by decide +kernel
theorem dX9_rests_108 : decode cX9_rests 108 = .ok (.iload 8, 2) := by decide +kernel
theorem dX9_rests_110 : decode cX9_rests 110 = .ok (.isub, 1) := by decide +kernel
theorem dX9_rests_111 : decode cX9_rests 111 = .ok (.iload 7, 2) := by decide +kernel
theorem dX9_rests_113 : decode cX9_rests 113 = .ok (.invokestatic 443, 3) := by decide +kernel
theorem dX9_rests_116 : decode cX9_rests 116 = .ok (.iload_n 1, 1) := by decide +kernel
theorem dX9_rests_117 : decode cX9_rests 117 = .ok (.iload_n 2, 1) := by decide +kernel
theorem dX9_rests_118 : decode cX9_rests 118 = .ok (.iload_n 3, 1) := by decide +kernel
theorem dX9_rests_119 : decode cX9_rests 119 = .ok (.iload 8, 2) := by decide +kernel
theorem dX9_rests_121 : decode cX9_rests 121 = .ok (.iload 7, 2) := by decide +kernel
theorem dX9_rests_123 : decode cX9_rests 123 = .ok (.invokestatic 443, 3) := by decide +kernel
theorem dX9_rests_126 : decode cX9_rests 126 = .ok (.if_icmp .le 6, 3) := by decide +kernel
theorem dX9_rests_129 : decode cX9_rests 129 = .ok (.goto 16, 3) := by decide +kernel
theorem dX9_rests_132 : decode cX9_rests 132 = .ok (.iload 5, 2) := by decide +kernel
theorem dX9_rests_134 : decode cX9_rests 134 = .ok (.iload 4, 2) := by decide +kernel
theorem dX9_rests_136 : decode cX9_rests 136 = .ok (.if_icmp .ne 6, 3) := by decide +kernel
theorem dX9_rests_139 : decode cX9_rests 139 = .ok (.iload 6, 2) := by decide +kernel
theorem dX9_rests_141 : decode cX9_rests 141 = .ok (.ireturn, 1) := by decide +kernel
theorem dX9_rests_142 : decode cX9_rests 142 = .ok (.iinc 5 1, 3) := by decide +kernel
theorem dX9_rests_145 : decode cX9_rests 145 = .ok (.iinc 6 1, 3) := by decide +kernel
theorem dX9_rests_148 : decode cX9_rests 148 = .ok (.goto (-87), 3) := by decide +kernel
theorem dX9_rests_151 : decode cX9_rests 151 = .ok (.aload_n 0, 1) := by decide +kernel
theorem dX9_rests_152 : decode cX9_rests 152 = .ok (.iload 4, 2) := by decide +kernel
theorem dX9_rests_154 : decode cX9_rests 154 = .ok (.iconst (-1), 1) := by decide +kernel
theorem dX9_rests_155 : decode cX9_rests 155 = .ok (.if_icmp .ne 7, 3) := by decide +kernel
theorem dX9_rests_158 : decode cX9_rests 158 = .ok (.iconst 0, 1) := by decide +kernel
theorem dX9_rests_159 : decode cX9_rests 159 = .ok (.goto 4, 3) := by decide +kernel
theorem dX9_rests_162 : decode cX9_rests 162 = .ok (.iconst 1, 1) := by decide +kernel
theorem dX9_rests_163 : decode cX9_rests 163 = .ok (.putfield 130, 3) := by decide +kernel
theorem dX9_rests_166 : decode cX9_rests 166 = .ok (.iload 4, 2) := by decide +kernel
theorem dX9_rests_168 : decode cX9_rests 168 = .ok (.iconst (-1), 1) := by decide +kernel
theorem dX9_rests_169 : decode cX9_rests 169 = .ok (.if_icmp .ne 8, 3) := by decide +kernel
theorem dX9_rests_172 : decode cX9_rests 172 = .ok (.iload 5, 2) := by decide +kernel
theorem dX9_rests_174 : decode cX9_rests 174 = .ok (.goto 4, 3) := by decide +kernel
theorem dX9_rests_177 : decode cX9_rests 177 = .ok (.iconst 0, 1) := by decide +kernel
theorem dX9_rests_178 : decode cX9_rests 178 = .ok (.ireturn, 1) := by decide +kernel
theorem dX9_draws_0 : decode cX9_draws 0 = .ok (.aload_n 0, 1) := by decide +kernel
theorem dX9_draws_1 : decode cX9_draws 1 = .ok (.aload_n 0, 1) := by decide +kernel
theorem dX9_draws_2 : decode cX9_draws 2 = .ok (.getfield 447, 3) := by decide +kernel
theorem dX9_draws_5 : decode cX9_draws 5 = .ok (.ldc2_w 450, 3) := by decide +kernel
theorem dX9_draws_8 : decode cX9_draws 8 = .ok (.lmul, 1) := by decide +kernel
theorem dX9_draws_9 : decode cX9_draws 9 = .ok (.ldc2_w 452, 3) := by decide +kernel
theorem dX9_draws_12 : decode cX9_draws 12 = .ok (.ladd, 1) := by decide +kernel
theorem dX9_draws_13 : decode cX9_draws 13 = .ok (.ldc2_w 454, 3) := by decide +kernel
theorem dX9_draws_16 : decode cX9_draws 16 = .ok (.lrem, 1) := by decide +kernel
theorem dX9_draws_17 : decode cX9_draws 17 = .ok (.putfield 447, 3) := by decide +kernel
theorem dX9_draws_20 : decode cX9_draws 20 = .ok (.aload_n 0, 1) := by decide +kernel
theorem dX9_draws_21 : decode cX9_draws 21 = .ok (.getfield 447, 3) := by decide +kernel
theorem dX9_draws_24 : decode cX9_draws 24 = .ok (.ldc2_w 456, 3) := by decide +kernel
theorem dX9_draws_27 : decode cX9_draws 27 = .ok (.ldiv, 1) := by decide +kernel
theorem dX9_draws_28 : decode cX9_draws 28 = .ok (.iload_n 1, 1) := by decide +kernel
theorem dX9_draws_29 : decode cX9_draws 29 = .ok (.i2l, 1) := by decide +kernel
theorem dX9_draws_30 : decode cX9_draws 30 = .ok (.lrem, 1) := by decide +kernel
theorem dX9_draws_31 : decode cX9_draws 31 = .ok (.l2i, 1) := by decide +kernel
theorem dX9_draws_32 : decode cX9_draws 32 = .ok (.ireturn, 1) := by decide +kernel
theorem dX9_livesMinute_0 : decode cX9_livesMinute 0 = .ok (.aload_n 0, 1) := by decide +kernel
theorem dX9_livesMinute_1 : decode cX9_livesMinute 1 = .ok (.getfield 13, 3) := by decide +kernel
theorem dX9_livesMinute_4 : decode cX9_livesMinute 4 = .ok (.iconst 0, 1) := by decide +kernel
theorem dX9_livesMinute_5 : decode cX9_livesMinute 5 = .ok (.iaload, 1) := by decide +kernel
theorem dX9_livesMinute_6 : decode cX9_livesMinute 6 = .ok (.ifCond .le 51, 3) := by decide +kernel
theorem dX9_livesMinute_9 : decode cX9_livesMinute 9 = .ok (.aload_n 0, 1) := by decide +kernel
theorem dX9_livesMinute_10 : decode cX9_livesMinute 10 = .ok (.aload_n 0, 1) := by decide +kernel
theorem dX9_livesMinute_11 : decode cX9_livesMinute 11 = .ok (.getfield 13, 3) := by decide +kernel
theorem dX9_livesMinute_14 : decode cX9_livesMinute 14 = .ok (.iconst 0, 1) := by decide +kernel
theorem dX9_livesMinute_15 : decode cX9_livesMinute 15 = .ok (.iaload, 1) := by decide +kernel
theorem dX9_livesMinute_16 : decode cX9_livesMinute 16 = .ok (.invokevirtual 458, 3) := by decide +kernel
theorem dX9_livesMinute_19 : decode cX9_livesMinute 19 = .ok (.istore_n 1, 1) := by decide +kernel
theorem dX9_livesMinute_20 : decode cX9_livesMinute 20 = .ok (.aload_n 0, 1) := by decide +kernel
theorem dX9_livesMinute_21 : decode cX9_livesMinute 21 = .ok (.iload_n 1, 1) := by decide +kernel
theorem dX9_livesMinute_22 : decode cX9_livesMinute 22 = .ok (.invokevirtual 354, 3) := by decide +kernel
theorem dX9_livesMinute_25 : decode cX9_livesMinute 25 = .ok (.ifCond .eq 11, 3) := by decide +kernel
theorem dX9_livesMinute_28 : decode cX9_livesMinute 28 = .ok (.aload_n 0, 1) := by decide +kernel
theorem dX9_livesMinute_29 : decode cX9_livesMinute 29 = .ok (.iload_n 1, 1) := by decide +kernel
theorem dX9_livesMinute_30 : decode cX9_livesMinute 30 = .ok (.invokevirtual 360, 3) := by decide +kernel
theorem dX9_livesMinute_33 : decode cX9_livesMinute 33 = .ok (.goto 24, 3) := by decide +kernel
theorem dX9_livesMinute_36 : decode cX9_livesMinute 36 = .ok (.aload_n 0, 1) := by decide +kernel
theorem dX9_livesMinute_37 : decode cX9_livesMinute 37 = .ok (.iload_n 1, 1) := by decide +kernel
theorem dX9_livesMinute_38 : decode cX9_livesMinute 38 = .ok (.invokevirtual 319, 3) := by decide +kernel
theorem dX9_livesMinute_41 : decode cX9_livesMinute 41 = .ok (.ifCond .lt 16, 3) := by decide +kernel
theorem dX9_livesMinute_44 : decode cX9_livesMinute 44 = .ok (.aload_n 0, 1) := by decide +kernel
theorem dX9_livesMinute_45 : decode cX9_livesMinute 45 = .ok (.iconst 4, 1) := by decide +kernel
theorem dX9_livesMinute_46 : decode cX9_livesMinute 46 = .ok (.invokevirtual 458, 3) := by decide +kernel
theorem dX9_livesMinute_49 : decode cX9_livesMinute 49 = .ok (.ifCond .ne 8, 3) := by decide +kernel
theorem dX9_livesMinute_52 : decode cX9_livesMinute 52 = .ok (.aload_n 0, 1) := by decide +kernel
theorem dX9_livesMinute_53 : decode cX9_livesMinute 53 = .ok (.iload_n 1, 1) := by decide +kernel
theorem dX9_livesMinute_54 : decode cX9_livesMinute 54 = .ok (.invokevirtual 335, 3) := by decide +kernel
theorem dX9_livesMinute_57 : decode cX9_livesMinute 57 = .ok (.aload_n 0, 1) := by decide +kernel
theorem dX9_livesMinute_58 : decode cX9_livesMinute 58 = .ok (.invokevirtual 369, 3) := by decide +kernel
theorem dX9_livesMinute_61 : decode cX9_livesMinute 61 = .ok (.invokestatic 322, 3) := by decide +kernel
theorem dX9_livesMinute_64 : decode cX9_livesMinute 64 = .ok (.ireturn, 1) := by decide +kernel
theorem dX9_days_0 : decode cX9_days 0 = .ok (.aload_n 0, 1) := by decide +kernel
theorem dX9_days_1 : decode cX9_days 1 = .ok (.iconst 0, 1) := by decide +kernel
theorem dX9_days_2 : decode cX9_days 2 = .ok (.putfield 130, 3) := by decide +kernel
theorem dX9_days_5 : decode cX9_days 5 = .ok (.iload_n 1, 1) := by decide +kernel
theorem dX9_days_6 : decode cX9_days 6 = .ok (.iconst 0, 1) := by decide +kernel
theorem dX9_days_7 : decode cX9_days 7 = .ok (.sipush 9999, 3) := by decide +kernel
theorem dX9_days_10 : decode cX9_days 10 = .ok (.invokestatic 244, 3) := by decide +kernel
theorem dX9_days_13 : decode cX9_days 13 = .ok (.ifCond .eq 22, 3) := by decide +kernel
theorem dX9_days_16 : decode cX9_days 16 = .ok (.iload_n 2, 1) := by decide +kernel
theorem dX9_days_17 : decode cX9_days 17 = .ok (.iconst 1, 1) := by decide +kernel
theorem dX9_days_18 : decode cX9_days 18 = .ok (.bipush 99, 2) := by decide +kernel
theorem dX9_days_20 : decode cX9_days 20 = .ok (.invokestatic 244, 3) := by decide +kernel
theorem dX9_days_23 : decode cX9_days 23 = .ok (.ifCond .eq 12, 3) := by decide +kernel
theorem dX9_days_26 : decode cX9_days 26 = .ok (.iload_n 3, 1) := by decide +kernel
theorem dX9_days_27 : decode cX9_days 27 = .ok (.iconst 0, 1) := by decide +kernel
theorem dX9_days_28 : decode cX9_days 28 = .ok (.iconst 2, 1) := by decide +kernel
theorem dX9_days_29 : decode cX9_days 29 = .ok (.invokestatic 244, 3) := by decide +kernel
theorem dX9_days_32 : decode cX9_days 32 = .ok (.ifCond .ne 5, 3) := by decide +kernel
theorem dX9_days_35 : decode cX9_days 35 = .ok (.iconst (-1), 1) := by decide +kernel
theorem dX9_days_36 : decode cX9_days 36 = .ok (.ireturn, 1) := by decide +kernel
theorem dX9_days_37 : decode cX9_days 37 = .ok (.aload_n 0, 1) := by decide +kernel
theorem dX9_days_38 : decode cX9_days 38 = .ok (.iload_n 1, 1) := by decide +kernel
theorem dX9_days_39 : decode cX9_days 39 = .ok (.i2l, 1) := by decide +kernel
theorem dX9_days_40 : decode cX9_days 40 = .ok (.putfield 447, 3) := by decide +kernel
theorem dX9_days_43 : decode cX9_days 43 = .ok (.aload_n 0, 1) := by decide +kernel
theorem dX9_days_44 : decode cX9_days 44 = .ok (.getfield 93, 3) := by decide +kernel
theorem dX9_days_47 : decode cX9_days 47 = .ok (.iconst 0, 1) := by decide +kernel
theorem dX9_days_48 : decode cX9_days 48 = .ok (.aload_n 0, 1) := by decide +kernel
theorem dX9_days_49 : decode cX9_days 49 = .ok (.getfield 96, 3) := by decide +kernel
theorem dX9_days_52 : decode cX9_days 52 = .ok (.iconst 0, 1) := by decide +kernel
theorem dX9_days_53 : decode cX9_days 53 = .ok (.invokestatic 350, 3) := by decide +kernel
theorem dX9_days_56 : decode cX9_days 56 = .ok (.iconst 0, 1) := by decide +kernel
theorem dX9_days_57 : decode cX9_days 57 = .ok (.istore 4, 2) := by decide +kernel
theorem dX9_days_59 : decode cX9_days 59 = .ok (.iconst 0, 1) := by decide +kernel
theorem dX9_days_60 : decode cX9_days 60 = .ok (.istore 5, 2) := by decide +kernel
theorem dX9_days_62 : decode cX9_days 62 = .ok (.iload 5, 2) := by decide +kernel
theorem dX9_days_64 : decode cX9_days 64 = .ok (.iload_n 2, 1) := by decide +kernel
theorem dX9_days_65 : decode cX9_days 65 = .ok (.if_icmp .ge 18, 3) := by decide +kernel
theorem dX9_days_68 : decode cX9_days 68 = .ok (.iload 4, 2) := by decide +kernel
theorem dX9_days_70 : decode cX9_days 70 = .ok (.aload_n 0, 1) := by decide +kernel
theorem dX9_days_71 : decode cX9_days 71 = .ok (.invokevirtual 461, 3) := by decide +kernel
theorem dX9_days_74 : decode cX9_days 74 = .ok (.iadd, 1) := by decide +kernel
theorem dX9_days_75 : decode cX9_days 75 = .ok (.istore 4, 2) := by decide +kernel
theorem dX9_days_77 : decode cX9_days 77 = .ok (.iinc 5 1, 3) := by decide +kernel
theorem dX9_days_80 : decode cX9_days 80 = .ok (.goto (-18), 3) := by decide +kernel
theorem dX9_days_83 : decode cX9_days 83 = .ok (.aload_n 0, 1) := by decide +kernel
theorem dX9_days_84 : decode cX9_days 84 = .ok (.invokevirtual 408, 3) := by decide +kernel
theorem dX9_days_87 : decode cX9_days 87 = .ok (.istore 5, 2) := by decide +kernel
theorem dX9_days_89 : decode cX9_days 89 = .ok (.aload_n 0, 1) := by decide +kernel
theorem dX9_days_90 : decode cX9_days 90 = .ok (.invokevirtual 464, 3) := by decide +kernel
theorem dX9_days_93 : decode cX9_days 93 = .ok (.istore 6, 2) := by decide +kernel
theorem dX9_days_95 : decode cX9_days 95 = .ok (.aload_n 0, 1) := by decide +kernel
theorem dX9_days_96 : decode cX9_days 96 = .ok (.getfield 96, 3) := by decide +kernel
theorem dX9_days_99 : decode cX9_days 99 = .ok (.iconst 0, 1) := by decide +kernel
theorem dX9_days_100 : decode cX9_days 100 = .ok (.aload_n 0, 1) := by decide +kernel
theorem dX9_days_101 : decode cX9_days 101 = .ok (.getfield 93, 3) := by decide +kernel
theorem dX9_days_104 : decode cX9_days 104 = .ok (.iconst 0, 1) := by decide +kernel
theorem dX9_days_105 : decode cX9_days 105 = .ok (.invokestatic 350, 3) := by decide +kernel
theorem dX9_days_108 : decode cX9_days 108 = .ok (.iload_n 3, 1) := by decide +kernel
theorem dX9_days_109 : decode cX9_days 109 = .ok (.ifCond .ne 8, 3) := by decide +kernel
theorem dX9_days_112 : decode cX9_days 112 = .ok (.iload 4, 2) := by decide +kernel
theorem dX9_days_114 : decode cX9_days 114 = .ok (.goto 15, 3) := by decide +kernel
theorem dX9_days_117 : decode cX9_days 117 = .ok (.iload_n 3, 1) := by decide +kernel
theorem dX9_days_118 : decode cX9_days 118 = .ok (.iconst 1, 1) := by decide +kernel
theorem dX9_days_119 : decode cX9_days 119 = .ok (.if_icmp .ne 8, 3) := by decide +kernel
theorem dX9_days_122 : decode cX9_days 122 = .ok (.iload 5, 2) := by decide +kernel
theorem dX9_days_124 : decode cX9_days 124 = .ok (.goto 5, 3) := by decide +kernel
theorem dX9_days_127 : decode cX9_days 127 = .ok (.iload 6, 2) := by decide +kernel
theorem dX9_days_129 : decode cX9_days 129 = .ok (.ireturn, 1) := by decide +kernel
theorem dX9_mark_0 : decode cX9_mark 0 = .ok (.aload_n 0, 1) := by decide +kernel
theorem dX9_mark_1 : decode cX9_mark 1 = .ok (.iconst 0, 1) := by decide +kernel
theorem dX9_mark_2 : decode cX9_mark 2 = .ok (.putfield 130, 3) := by decide +kernel
theorem dX9_mark_5 : decode cX9_mark 5 = .ok (.iload_n 1, 1) := by decide +kernel
theorem dX9_mark_6 : decode cX9_mark 6 = .ok (.iconst 0, 1) := by decide +kernel
theorem dX9_mark_7 : decode cX9_mark 7 = .ok (.iconst 3, 1) := by decide +kernel
theorem dX9_mark_8 : decode cX9_mark 8 = .ok (.invokestatic 244, 3) := by decide +kernel
theorem dX9_mark_11 : decode cX9_mark 11 = .ok (.ifCond .eq 16, 3) := by decide +kernel
theorem dX9_mark_14 : decode cX9_mark 14 = .ok (.iload_n 2, 1) := by decide +kernel
theorem dX9_mark_15 : decode cX9_mark 15 = .ok (.ifCond .eq 14, 3) := by decide +kernel
theorem dX9_mark_18 : decode cX9_mark 18 = .ok (.aload_n 0, 1) := by decide +kernel
theorem dX9_mark_19 : decode cX9_mark 19 = .ok (.getfield 108, 3) := by decide +kernel
theorem dX9_mark_22 : decode cX9_mark 22 = .ok (.iload_n 1, 1) := by decide +kernel
theorem dX9_mark_23 : decode cX9_mark 23 = .ok (.baload, 1) := by decide +kernel
theorem dX9_mark_24 : decode cX9_mark 24 = .ok (.ifCond .ne 5, 3) := by decide +kernel
theorem dX9_mark_27 : decode cX9_mark 27 = .ok (.iconst 0, 1) := by decide +kernel
theorem dX9_mark_28 : decode cX9_mark 28 = .ok (.ireturn, 1) := by decide +kernel
theorem dX9_mark_29 : decode cX9_mark 29 = .ok (.aload_n 0, 1) := by decide +kernel
theorem dX9_mark_30 : decode cX9_mark 30 = .ok (.getfield 108, 3) := by decide +kernel
theorem dX9_mark_33 : decode cX9_mark 33 = .ok (.iload_n 1, 1) := by decide +kernel
theorem dX9_mark_34 : decode cX9_mark 34 = .ok (.iconst 1, 1) := by decide +kernel
theorem dX9_mark_35 : decode cX9_mark 35 = .ok (.bastore, 1) := by decide +kernel
theorem dX9_mark_36 : decode cX9_mark 36 = .ok (.iload_n 2, 1) := by decide +kernel
theorem dX9_mark_37 : decode cX9_mark 37 = .ok (.ifCond .eq 9, 3) := by decide +kernel
theorem dX9_mark_40 : decode cX9_mark 40 = .ok (.iconst 1, 1) := by decide +kernel
theorem dX9_mark_41 : decode cX9_mark 41 = .ok (.iload_n 1, 1) := by decide +kernel
theorem dX9_mark_42 : decode cX9_mark 42 = .ok (.iadd, 1) := by decide +kernel
theorem dX9_mark_43 : decode cX9_mark 43 = .ok (.goto 4, 3) := by decide +kernel
theorem dX9_mark_46 : decode cX9_mark 46 = .ok (.iconst 0, 1) := by decide +kernel
theorem dX9_mark_47 : decode cX9_mark 47 = .ok (.istore_n 3, 1) := by decide +kernel
theorem dX9_mark_48 : decode cX9_mark 48 = .ok (.iload_n 2, 1) := by decide +kernel
theorem dX9_mark_49 : decode cX9_mark 49 = .ok (.ifCond .eq 7, 3) := by decide +kernel
theorem dX9_mark_52 : decode cX9_mark 52 = .ok (.iconst 0, 1) := by decide +kernel
theorem dX9_mark_53 : decode cX9_mark 53 = .ok (.goto 6, 3) := by decide +kernel
theorem dX9_mark_56 : decode cX9_mark 56 = .ok (.iconst 1, 1) := by decide +kernel
theorem dX9_mark_57 : decode cX9_mark 57 = .ok (.iload_n 1, 1) := by decide +kernel
theorem dX9_mark_58 : decode cX9_mark 58 = .ok (.iadd, 1) := by decide +kernel
theorem dX9_mark_59 : decode cX9_mark 59 = .ok (.istore 4, 2) := by decide +kernel
theorem dX9_mark_61 : decode cX9_mark 61 = .ok (.aload_n 0, 1) := by decide +kernel
theorem dX9_mark_62 : decode cX9_mark 62 = .ok (.iload_n 3, 1) := by decide +kernel
theorem dX9_mark_63 : decode cX9_mark 63 = .ok (.iload 4, 2) := by decide +kernel
theorem dX9_mark_65 : decode cX9_mark 65 = .ok (.invokevirtual 312, 3) := by decide +kernel
theorem dX9_mark_68 : decode cX9_mark 68 = .ok (.aload_n 0, 1) := by decide +kernel
theorem dX9_mark_69 : decode cX9_mark 69 = .ok (.iload_n 3, 1) := by decide +kernel
theorem dX9_mark_70 : decode cX9_mark 70 = .ok (.iload 4, 2) := by decide +kernel
theorem dX9_mark_72 : decode cX9_mark 72 = .ok (.invokevirtual 467, 3) := by decide +kernel
theorem dX9_mark_75 : decode cX9_mark 75 = .ok (.iload_n 2, 1) := by decide +kernel
theorem dX9_mark_76 : decode cX9_mark 76 = .ok (.ifCond .eq 27, 3) := by decide +kernel
theorem dX9_mark_79 : decode cX9_mark 79 = .ok (.aload_n 0, 1) := by decide +kernel
theorem dX9_mark_80 : decode cX9_mark 80 = .ok (.getfield 102, 3) := by decide +kernel
theorem dX9_mark_83 : decode cX9_mark 83 = .ok (.bipush 58, 2) := by decide +kernel
theorem dX9_mark_85 : decode cX9_mark 85 = .ok (.iload_n 1, 1) := by decide +kernel
theorem dX9_mark_86 : decode cX9_mark 86 = .ok (.imul, 1) := by decide +kernel
theorem dX9_mark_87 : decode cX9_mark 87 = .ok (.aload_n 0, 1) := by decide +kernel
theorem dX9_mark_88 : decode cX9_mark 88 = .ok (.getfield 93, 3) := by decide +kernel
theorem dX9_mark_91 : decode cX9_mark 91 = .ok (.iconst 0, 1) := by decide +kernel
theorem dX9_mark_92 : decode cX9_mark 92 = .ok (.invokestatic 350, 3) := by decide +kernel
theorem dX9_mark_95 : decode cX9_mark 95 = .ok (.aload_n 0, 1) := by decide +kernel
theorem dX9_mark_96 : decode cX9_mark 96 = .ok (.iconst 0, 1) := by decide +kernel
theorem dX9_mark_97 : decode cX9_mark 97 = .ok (.putfield 306, 3) := by decide +kernel
theorem dX9_mark_100 : decode cX9_mark 100 = .ok (.goto 19, 3) := by decide +kernel
theorem dX9_mark_103 : decode cX9_mark 103 = .ok (.aload_n 0, 1) := by decide +kernel
theorem dX9_mark_104 : decode cX9_mark 104 = .ok (.getfield 93, 3) := by decide +kernel
theorem dX9_mark_107 : decode cX9_mark 107 = .ok (.iconst 0, 1) := by decide +kernel
theorem dX9_mark_108 : decode cX9_mark 108 = .ok (.aload_n 0, 1) := by decide +kernel
theorem dX9_mark_109 : decode cX9_mark 109 = .ok (.getfield 102, 3) := by decide +kernel
theorem dX9_mark_112 : decode cX9_mark 112 = .ok (.bipush 58, 2) := by decide +kernel
theorem dX9_mark_114 : decode cX9_mark 114 = .ok (.iload_n 1, 1) := by decide +kernel
theorem dX9_mark_115 : decode cX9_mark 115 = .ok (.imul, 1) := by decide +kernel
theorem dX9_mark_116 : decode cX9_mark 116 = .ok (.invokestatic 350, 3) := by decide +kernel
theorem dX9_mark_119 : decode cX9_mark 119 = .ok (.iconst 1, 1) := by decide +kernel
theorem dX9_mark_120 : decode cX9_mark 120 = .ok (.ireturn, 1) := by decide +kernel
theorem dX9_toldMany_0 : decode cX9_toldMany 0 = .ok (.iconst 0, 1) := by decide +kernel
theorem dX9_toldMany_1 : decode cX9_toldMany 1 = .ok (.istore_n 1, 1) := by decide +kernel
theorem dX9_toldMany_2 : decode cX9_toldMany 2 = .ok (.iconst 0, 1) := by decide +kernel
theorem dX9_toldMany_3 : decode cX9_toldMany 3 = .ok (.istore_n 2, 1) := by decide +kernel
theorem dX9_toldMany_4 : decode cX9_toldMany 4 = .ok (.iload_n 2, 1) := by decide +kernel
theorem dX9_toldMany_5 : decode cX9_toldMany 5 = .ok (.bipush 6, 2) := by decide +kernel
theorem dX9_toldMany_7 : decode cX9_toldMany 7 = .ok (.if_icmp .ge 26, 3) := by decide +kernel
theorem dX9_toldMany_10 : decode cX9_toldMany 10 = .ok (.iload_n 1, 1) := by decide +kernel
theorem dX9_toldMany_11 : decode cX9_toldMany 11 = .ok (.aload_n 0, 1) := by decide +kernel
theorem dX9_toldMany_12 : decode cX9_toldMany 12 = .ok (.getfield 90, 3) := by decide +kernel
theorem dX9_toldMany_15 : decode cX9_toldMany 15 = .ok (.iload_n 2, 1) := by decide +kernel
theorem dX9_toldMany_16 : decode cX9_toldMany 16 = .ok (.iaload, 1) := by decide +kernel
theorem dX9_toldMany_17 : decode cX9_toldMany 17 = .ok (.ifCond .lt 7, 3) := by decide +kernel
theorem dX9_toldMany_20 : decode cX9_toldMany 20 = .ok (.iconst 1, 1) := by decide +kernel
theorem dX9_toldMany_21 : decode cX9_toldMany 21 = .ok (.goto 4, 3) := by decide +kernel
theorem dX9_toldMany_24 : decode cX9_toldMany 24 = .ok (.iconst 0, 1) := by decide +kernel
theorem dX9_toldMany_25 : decode cX9_toldMany 25 = .ok (.iadd, 1) := by decide +kernel
theorem dX9_toldMany_26 : decode cX9_toldMany 26 = .ok (.istore_n 1, 1) := by decide +kernel
theorem dX9_toldMany_27 : decode cX9_toldMany 27 = .ok (.iinc 2 1, 3) := by decide +kernel
theorem dX9_toldMany_30 : decode cX9_toldMany 30 = .ok (.goto (-26), 3) := by decide +kernel
theorem dX9_toldMany_33 : decode cX9_toldMany 33 = .ok (.iload_n 1, 1) := by decide +kernel
theorem dX9_toldMany_34 : decode cX9_toldMany 34 = .ok (.ireturn, 1) := by decide +kernel
theorem dX9_count_0 : decode cX9_count 0 = .ok (.aload_n 0, 1) := by decide +kernel
theorem dX9_count_1 : decode cX9_count 1 = .ok (.iconst 0, 1) := by decide +kernel
theorem dX9_count_2 : decode cX9_count 2 = .ok (.putfield 130, 3) := by decide +kernel
theorem dX9_count_5 : decode cX9_count 5 = .ok (.iload_n 1, 1) := by decide +kernel
theorem dX9_count_6 : decode cX9_count 6 = .ok (.iconst 0, 1) := by decide +kernel
theorem dX9_count_7 : decode cX9_count 7 = .ok (.bipush 11, 2) := by decide +kernel
theorem dX9_count_9 : decode cX9_count 9 = .ok (.invokestatic 244, 3) := by decide +kernel
theorem dX9_count_12 : decode cX9_count 12 = .ok (.ifCond .ne 5, 3) := by decide +kernel
theorem dX9_count_15 : decode cX9_count 15 = .ok (.iconst (-1), 1) := by decide +kernel
theorem dX9_count_16 : decode cX9_count 16 = .ok (.ireturn, 1) := by decide +kernel
theorem dX9_count_17 : decode cX9_count 17 = .ok (.iload_n 1, 1) := by decide +kernel
theorem dX9_count_18 : decode cX9_count 18 = .ok (.iconst 3, 1) := by decide +kernel
theorem dX9_count_19 : decode cX9_count 19 = .ok (.if_icmp .ge 37, 3) := by decide +kernel
theorem dX9_count_22 : decode cX9_count 22 = .ok (.iload_n 1, 1) := by decide +kernel
theorem dX9_count_23 : decode cX9_count 23 = .ok (.ifCond .ne 12, 3) := by decide +kernel
theorem dX9_count_26 : decode cX9_count 26 = .ok (.aload_n 0, 1) := by decide +kernel
theorem dX9_count_27 : decode cX9_count 27 = .ok (.getfield 13, 3) := by decide +kernel
theorem dX9_count_30 : decode cX9_count 30 = .ok (.iconst 0, 1) := by decide +kernel
theorem dX9_count_31 : decode cX9_count 31 = .ok (.iaload, 1) := by decide +kernel
theorem dX9_count_32 : decode cX9_count 32 = .ok (.goto 23, 3) := by decide +kernel
theorem dX9_count_35 : decode cX9_count 35 = .ok (.iload_n 1, 1) := by decide +kernel
theorem dX9_count_36 : decode cX9_count 36 = .ok (.iconst 1, 1) := by decide +kernel
theorem dX9_count_37 : decode cX9_count 37 = .ok (.if_icmp .ne 12, 3) := by decide +kernel
theorem dX9_count_40 : decode cX9_count 40 = .ok (.aload_n 0, 1) := by decide +kernel
theorem dX9_count_41 : decode cX9_count 41 = .ok (.getfield 13, 3) := by decide +kernel
theorem dX9_count_44 : decode cX9_count 44 = .ok (.iconst 1, 1) := by decide +kernel
theorem dX9_count_45 : decode cX9_count 45 = .ok (.iaload, 1) := by decide +kernel
theorem dX9_count_46 : decode cX9_count 46 = .ok (.goto 9, 3) := by decide +kernel
theorem dX9_count_49 : decode cX9_count 49 = .ok (.aload_n 0, 1) := by decide +kernel
theorem dX9_count_50 : decode cX9_count 50 = .ok (.getfield 93, 3) := by decide +kernel
theorem dX9_count_53 : decode cX9_count 53 = .ok (.iconst 0, 1) := by decide +kernel
theorem dX9_count_54 : decode cX9_count 54 = .ok (.iaload, 1) := by decide +kernel
theorem dX9_count_55 : decode cX9_count 55 = .ok (.ireturn, 1) := by decide +kernel
theorem dX9_count_56 : decode cX9_count 56 = .ok (.iload_n 1, 1) := by decide +kernel
theorem dX9_count_57 : decode cX9_count 57 = .ok (.bipush 6, 2) := by decide +kernel
theorem dX9_count_59 : decode cX9_count 59 = .ok (.if_icmp .ge 36, 3) := by decide +kernel
theorem dX9_count_62 : decode cX9_count 62 = .ok (.iload_n 1, 1) := by decide +kernel
theorem dX9_count_63 : decode cX9_count 63 = .ok (.iconst 3, 1) := by decide +kernel
theorem dX9_count_64 : decode cX9_count 64 = .ok (.if_icmp .ne 12, 3) := by decide +kernel
theorem dX9_count_67 : decode cX9_count 67 = .ok (.aload_n 0, 1) := by decide +kernel
theorem dX9_count_68 : decode cX9_count 68 = .ok (.getfield 93, 3) := by decide +kernel
theorem dX9_count_71 : decode cX9_count 71 = .ok (.iconst 1, 1) := by decide +kernel
theorem dX9_count_72 : decode cX9_count 72 = .ok (.iaload, 1) := by decide +kernel
theorem dX9_count_73 : decode cX9_count 73 = .ok (.goto 21, 3) := by decide +kernel
theorem dX9_count_76 : decode cX9_count 76 = .ok (.iload_n 1, 1) := by decide +kernel
theorem dX9_count_77 : decode cX9_count 77 = .ok (.iconst 4, 1) := by decide +kernel
theorem dX9_count_78 : decode cX9_count 78 = .ok (.if_icmp .ne 10, 3) := by decide +kernel
theorem dX9_count_81 : decode cX9_count 81 = .ok (.aload_n 0, 1) := by decide +kernel
theorem dX9_count_82 : decode cX9_count 82 = .ok (.invokevirtual 408, 3) := by decide +kernel
theorem dX9_count_85 : decode cX9_count 85 = .ok (.goto 9, 3) := by decide +kernel
theorem dX9_count_88 : decode cX9_count 88 = .ok (.aload_n 0, 1) := by decide +kernel
theorem dX9_count_89 : decode cX9_count 89 = .ok (.getfield 93, 3) := by decide +kernel
theorem dX9_count_92 : decode cX9_count 92 = .ok (.iconst 2, 1) := by decide +kernel
theorem dX9_count_93 : decode cX9_count 93 = .ok (.iaload, 1) := by decide +kernel
theorem dX9_count_94 : decode cX9_count 94 = .ok (.ireturn, 1) := by decide +kernel
theorem dX9_count_95 : decode cX9_count 95 = .ok (.iload_n 1, 1) := by decide +kernel
theorem dX9_count_96 : decode cX9_count 96 = .ok (.bipush 8, 2) := by decide +kernel
theorem dX9_count_98 : decode cX9_count 98 = .ok (.if_icmp .ge 23, 3) := by decide +kernel
theorem dX9_count_101 : decode cX9_count 101 = .ok (.iload_n 1, 1) := by decide +kernel
theorem dX9_count_102 : decode cX9_count 102 = .ok (.bipush 6, 2) := by decide +kernel
theorem dX9_count_104 : decode cX9_count 104 = .ok (.if_icmp .ne 10, 3) := by decide +kernel
theorem dX9_count_107 : decode cX9_count 107 = .ok (.aload_n 0, 1) := by decide +kernel
theorem dX9_count_108 : decode cX9_count 108 = .ok (.invokevirtual 464, 3) := by decide +kernel
theorem dX9_count_111 : decode cX9_count 111 = .ok (.goto 9, 3) := by decide +kernel
theorem dX9_count_114 : decode cX9_count 114 = .ok (.aload_n 0, 1) := by decide +kernel
theorem dX9_count_115 : decode cX9_count 115 = .ok (.getfield 93, 3) := by decide +kernel
theorem dX9_count_118 : decode cX9_count 118 = .ok (.iconst 3, 1) := by decide +kernel
theorem dX9_count_119 : decode cX9_count 119 = .ok (.iaload, 1) := by decide +kernel
theorem dX9_count_120 : decode cX9_count 120 = .ok (.ireturn, 1) := by decide +kernel
theorem dX9_count_121 : decode cX9_count 121 = .ok (.iload_n 1, 1) := by decide +kernel
theorem dX9_count_122 : decode cX9_count 122 = .ok (.bipush 10, 2) := by decide +kernel
theorem dX9_count_124 : decode cX9_count 124 = .ok (.if_icmp .ge 23, 3) := by decide +kernel
theorem dX9_count_127 : decode cX9_count 127 = .ok (.iload_n 1, 1) := by decide +kernel
theorem dX9_count_128 : decode cX9_count 128 = .ok (.bipush 8, 2) := by decide +kernel
theorem dX9_count_130 : decode cX9_count 130 = .ok (.if_icmp .ne 12, 3) := by decide +kernel
theorem dX9_count_133 : decode cX9_count 133 = .ok (.aload_n 0, 1) := by decide +kernel
theorem dX9_count_134 : decode cX9_count 134 = .ok (.getfield 78, 3) := by decide +kernel
theorem dX9_count_137 : decode cX9_count 137 = .ok (.iconst 0, 1) := by decide +kernel
theorem dX9_count_138 : decode cX9_count 138 = .ok (.iaload, 1) := by decide +kernel
theorem dX9_count_139 : decode cX9_count 139 = .ok (.goto 7, 3) := by decide +kernel
theorem dX9_count_142 : decode cX9_count 142 = .ok (.aload_n 0, 1) := by decide +kernel
theorem dX9_count_143 : decode cX9_count 143 = .ok (.invokevirtual 470, 3) := by decide +kernel
theorem dX9_count_146 : decode cX9_count 146 = .ok (.ireturn, 1) := by decide +kernel
theorem dX9_count_147 : decode cX9_count 147 = .ok (.iload_n 1, 1) := by decide +kernel
theorem dX9_count_148 : decode cX9_count 148 = .ok (.bipush 10, 2) := by decide +kernel
theorem dX9_count_150 : decode cX9_count 150 = .ok (.if_icmp .ne 10, 3) := by decide +kernel
theorem dX9_count_153 : decode cX9_count 153 = .ok (.aload_n 0, 1) := by decide +kernel
theorem dX9_count_154 : decode cX9_count 154 = .ok (.getfield 306, 3) := by decide +kernel
theorem dX9_count_157 : decode cX9_count 157 = .ok (.goto 7, 3) := by decide +kernel
theorem dX9_count_160 : decode cX9_count 160 = .ok (.aload_n 0, 1) := by decide +kernel
theorem dX9_count_161 : decode cX9_count 161 = .ok (.getfield 135, 3) := by decide +kernel
theorem dX9_count_164 : decode cX9_count 164 = .ok (.ireturn, 1) := by decide +kernel
theorem dJ11_isValidCodePoint_9a6ad_0 : decode cJ11_isValidCodePoint_9a6ad 0 = .ok (.iload_n 0, 1) := by decide +kernel
theorem dJ11_isValidCodePoint_9a6ad_1 : decode cJ11_isValidCodePoint_9a6ad 1 = .ok (.bipush 16, 2) := by decide +kernel
theorem dJ11_isValidCodePoint_9a6ad_3 : decode cJ11_isValidCodePoint_9a6ad 3 = .ok (.iushr, 1) := by decide +kernel
theorem dJ11_isValidCodePoint_9a6ad_4 : decode cJ11_isValidCodePoint_9a6ad 4 = .ok (.istore_n 1, 1) := by decide +kernel
theorem dJ11_isValidCodePoint_9a6ad_5 : decode cJ11_isValidCodePoint_9a6ad 5 = .ok (.iload_n 1, 1) := by decide +kernel
theorem dJ11_isValidCodePoint_9a6ad_6 : decode cJ11_isValidCodePoint_9a6ad 6 = .ok (.bipush 17, 2) := by decide +kernel
theorem dJ11_isValidCodePoint_9a6ad_8 : decode cJ11_isValidCodePoint_9a6ad 8 = .ok (.if_icmp .ge 7, 3) := by decide +kernel
theorem dJ11_isValidCodePoint_9a6ad_11 : decode cJ11_isValidCodePoint_9a6ad 11 = .ok (.iconst 1, 1) := by decide +kernel
theorem dJ11_isValidCodePoint_9a6ad_12 : decode cJ11_isValidCodePoint_9a6ad 12 = .ok (.goto 4, 3) := by decide +kernel
theorem dJ11_isValidCodePoint_9a6ad_15 : decode cJ11_isValidCodePoint_9a6ad 15 = .ok (.iconst 0, 1) := by decide +kernel
theorem dJ11_isValidCodePoint_9a6ad_16 : decode cJ11_isValidCodePoint_9a6ad 16 = .ok (.ireturn, 1) := by decide +kernel
theorem dJ11_highSurrogate_5068e_0 : decode cJ11_highSurrogate_5068e 0 = .ok (.iload_n 0, 1) := by decide +kernel
theorem dJ11_highSurrogate_5068e_1 : decode cJ11_highSurrogate_5068e 1 = .ok (.bipush 10, 2) := by decide +kernel
theorem dJ11_highSurrogate_5068e_3 : decode cJ11_highSurrogate_5068e 3 = .ok (.iushr, 1) := by decide +kernel
theorem dJ11_highSurrogate_5068e_4 : decode cJ11_highSurrogate_5068e 4 = .ok (.ldc 110, 2) := by decide +kernel
theorem dJ11_highSurrogate_5068e_6 : decode cJ11_highSurrogate_5068e 6 = .ok (.iadd, 1) := by decide +kernel
theorem dJ11_highSurrogate_5068e_7 : decode cJ11_highSurrogate_5068e 7 = .ok (.i2c, 1) := by decide +kernel
theorem dJ11_highSurrogate_5068e_8 : decode cJ11_highSurrogate_5068e 8 = .ok (.ireturn, 1) := by decide +kernel
theorem dJ11_lowSurrogate_5068e_0 : decode cJ11_lowSurrogate_5068e 0 = .ok (.iload_n 0, 1) := by decide +kernel
theorem dJ11_lowSurrogate_5068e_1 : decode cJ11_lowSurrogate_5068e 1 = .ok (.sipush 1023, 3) := by decide +kernel
theorem dJ11_lowSurrogate_5068e_4 : decode cJ11_lowSurrogate_5068e 4 = .ok (.iand, 1) := by decide +kernel
theorem dJ11_lowSurrogate_5068e_5 : decode cJ11_lowSurrogate_5068e 5 = .ok (.ldc 76, 2) := by decide +kernel
theorem dJ11_lowSurrogate_5068e_7 : decode cJ11_lowSurrogate_5068e 7 = .ok (.iadd, 1) := by decide +kernel
theorem dJ11_lowSurrogate_5068e_8 : decode cJ11_lowSurrogate_5068e 8 = .ok (.i2c, 1) := by decide +kernel
theorem dJ11_lowSurrogate_5068e_9 : decode cJ11_lowSurrogate_5068e 9 = .ok (.ireturn, 1) := by decide +kernel
theorem dJ6_bitCount_0f7a4_0 : decode cJ6_bitCount_0f7a4 0 = .ok (.iload_n 0, 1) := by decide +kernel
theorem dJ6_bitCount_0f7a4_1 : decode cJ6_bitCount_0f7a4 1 = .ok (.iload_n 0, 1) := by decide +kernel
theorem dJ6_bitCount_0f7a4_2 : decode cJ6_bitCount_0f7a4 2 = .ok (.iconst 1, 1) := by decide +kernel
theorem dJ6_bitCount_0f7a4_3 : decode cJ6_bitCount_0f7a4 3 = .ok (.iushr, 1) := by decide +kernel
theorem dJ6_bitCount_0f7a4_4 : decode cJ6_bitCount_0f7a4 4 = .ok (.ldc_w 265, 3) := by decide +kernel
theorem dJ6_bitCount_0f7a4_7 : decode cJ6_bitCount_0f7a4 7 = .ok (.iand, 1) := by decide +kernel
theorem dJ6_bitCount_0f7a4_8 : decode cJ6_bitCount_0f7a4 8 = .ok (.isub, 1) := by decide +kernel
theorem dJ6_bitCount_0f7a4_9 : decode cJ6_bitCount_0f7a4 9 = .ok (.istore_n 0, 1) := by decide +kernel
theorem dJ6_bitCount_0f7a4_10 : decode cJ6_bitCount_0f7a4 10 = .ok (.iload_n 0, 1) := by decide +kernel
theorem dJ6_bitCount_0f7a4_11 : decode cJ6_bitCount_0f7a4 11 = .ok (.ldc_w 266, 3) := by decide +kernel
theorem dJ6_bitCount_0f7a4_14 : decode cJ6_bitCount_0f7a4 14 = .ok (.iand, 1) := by decide +kernel
theorem dJ6_bitCount_0f7a4_15 : decode cJ6_bitCount_0f7a4 15 = .ok (.iload_n 0, 1) := by decide +kernel
theorem dJ6_bitCount_0f7a4_16 : decode cJ6_bitCount_0f7a4 16 = .ok (.iconst 2, 1) := by decide +kernel
theorem dJ6_bitCount_0f7a4_17 : decode cJ6_bitCount_0f7a4 17 = .ok (.iushr, 1) := by decide +kernel
theorem dJ6_bitCount_0f7a4_18 : decode cJ6_bitCount_0f7a4 18 = .ok (.ldc_w 266, 3) := by decide +kernel
theorem dJ6_bitCount_0f7a4_21 : decode cJ6_bitCount_0f7a4 21 = .ok (.iand, 1) := by decide +kernel
theorem dJ6_bitCount_0f7a4_22 : decode cJ6_bitCount_0f7a4 22 = .ok (.iadd, 1) := by decide +kernel
theorem dJ6_bitCount_0f7a4_23 : decode cJ6_bitCount_0f7a4 23 = .ok (.istore_n 0, 1) := by decide +kernel
theorem dJ6_bitCount_0f7a4_24 : decode cJ6_bitCount_0f7a4 24 = .ok (.iload_n 0, 1) := by decide +kernel
theorem dJ6_bitCount_0f7a4_25 : decode cJ6_bitCount_0f7a4 25 = .ok (.iload_n 0, 1) := by decide +kernel
theorem dJ6_bitCount_0f7a4_26 : decode cJ6_bitCount_0f7a4 26 = .ok (.iconst 4, 1) := by decide +kernel
theorem dJ6_bitCount_0f7a4_27 : decode cJ6_bitCount_0f7a4 27 = .ok (.iushr, 1) := by decide +kernel
theorem dJ6_bitCount_0f7a4_28 : decode cJ6_bitCount_0f7a4 28 = .ok (.iadd, 1) := by decide +kernel
theorem dJ6_bitCount_0f7a4_29 : decode cJ6_bitCount_0f7a4 29 = .ok (.ldc_w 267, 3) := by decide +kernel
theorem dJ6_bitCount_0f7a4_32 : decode cJ6_bitCount_0f7a4 32 = .ok (.iand, 1) := by decide +kernel
theorem dJ6_bitCount_0f7a4_33 : decode cJ6_bitCount_0f7a4 33 = .ok (.istore_n 0, 1) := by decide +kernel
theorem dJ6_bitCount_0f7a4_34 : decode cJ6_bitCount_0f7a4 34 = .ok (.iload_n 0, 1) := by decide +kernel
theorem dJ6_bitCount_0f7a4_35 : decode cJ6_bitCount_0f7a4 35 = .ok (.iload_n 0, 1) := by decide +kernel
theorem dJ6_bitCount_0f7a4_36 : decode cJ6_bitCount_0f7a4 36 = .ok (.bipush 8, 2) := by decide +kernel
theorem dJ6_bitCount_0f7a4_38 : decode cJ6_bitCount_0f7a4 38 = .ok (.iushr, 1) := by decide +kernel
theorem dJ6_bitCount_0f7a4_39 : decode cJ6_bitCount_0f7a4 39 = .ok (.iadd, 1) := by decide +kernel
theorem dJ6_bitCount_0f7a4_40 : decode cJ6_bitCount_0f7a4 40 = .ok (.istore_n 0, 1) := by decide +kernel
theorem dJ6_bitCount_0f7a4_41 : decode cJ6_bitCount_0f7a4 41 = .ok (.iload_n 0, 1) := by decide +kernel
theorem dJ6_bitCount_0f7a4_42 : decode cJ6_bitCount_0f7a4 42 = .ok (.iload_n 0, 1) := by decide +kernel
theorem dJ6_bitCount_0f7a4_43 : decode cJ6_bitCount_0f7a4 43 = .ok (.bipush 16, 2) := by decide +kernel
theorem dJ6_bitCount_0f7a4_45 : decode cJ6_bitCount_0f7a4 45 = .ok (.iushr, 1) := by decide +kernel
theorem dJ6_bitCount_0f7a4_46 : decode cJ6_bitCount_0f7a4 46 = .ok (.iadd, 1) := by decide +kernel
theorem dJ6_bitCount_0f7a4_47 : decode cJ6_bitCount_0f7a4 47 = .ok (.istore_n 0, 1) := by decide +kernel
theorem dJ6_bitCount_0f7a4_48 : decode cJ6_bitCount_0f7a4 48 = .ok (.iload_n 0, 1) := by decide +kernel
theorem dJ6_bitCount_0f7a4_49 : decode cJ6_bitCount_0f7a4 49 = .ok (.bipush 63, 2) := by decide +kernel
theorem dJ6_bitCount_0f7a4_51 : decode cJ6_bitCount_0f7a4 51 = .ok (.iand, 1) := by decide +kernel
theorem dJ6_bitCount_0f7a4_52 : decode cJ6_bitCount_0f7a4 52 = .ok (.ireturn, 1) := by decide +kernel
theorem dJ9_max_7cf53_0 : decode cJ9_max_7cf53 0 = .ok (.iload_n 0, 1) := by decide +kernel
theorem dJ9_max_7cf53_1 : decode cJ9_max_7cf53 1 = .ok (.iload_n 1, 1) := by decide +kernel
theorem dJ9_max_7cf53_2 : decode cJ9_max_7cf53 2 = .ok (.if_icmp .lt 7, 3) := by decide +kernel
theorem dJ9_max_7cf53_5 : decode cJ9_max_7cf53 5 = .ok (.iload_n 0, 1) := by decide +kernel
theorem dJ9_max_7cf53_6 : decode cJ9_max_7cf53 6 = .ok (.goto 4, 3) := by decide +kernel
theorem dJ9_max_7cf53_9 : decode cJ9_max_7cf53 9 = .ok (.iload_n 1, 1) := by decide +kernel
theorem dJ9_max_7cf53_10 : decode cJ9_max_7cf53 10 = .ok (.ireturn, 1) := by decide +kernel
theorem dJ9_min_7cf53_0 : decode cJ9_min_7cf53 0 = .ok (.iload_n 0, 1) := by decide +kernel
theorem dJ9_min_7cf53_1 : decode cJ9_min_7cf53 1 = .ok (.iload_n 1, 1) := by decide +kernel
theorem dJ9_min_7cf53_2 : decode cJ9_min_7cf53 2 = .ok (.if_icmp .gt 7, 3) := by decide +kernel
theorem dJ9_min_7cf53_5 : decode cJ9_min_7cf53 5 = .ok (.iload_n 0, 1) := by decide +kernel
theorem dJ9_min_7cf53_6 : decode cJ9_min_7cf53 6 = .ok (.goto 4, 3) := by decide +kernel
theorem dJ9_min_7cf53_9 : decode cJ9_min_7cf53 9 = .ok (.iload_n 1, 1) := by decide +kernel
theorem dJ9_min_7cf53_10 : decode cJ9_min_7cf53 10 = .ok (.ireturn, 1) := by decide +kernel
theorem dJ0_length_8abf5_0 : decode cJ0_length_8abf5 0 = .ok (.aload_n 0, 1) := by decide +kernel
theorem dJ0_length_8abf5_1 : decode cJ0_length_8abf5 1 = .ok (.getfield 9, 3) := by decide +kernel
theorem dJ0_length_8abf5_4 : decode cJ0_length_8abf5 4 = .ok (.arraylength, 1) := by decide +kernel
theorem dJ0_length_8abf5_5 : decode cJ0_length_8abf5 5 = .ok (.aload_n 0, 1) := by decide +kernel
theorem dJ0_length_8abf5_6 : decode cJ0_length_8abf5 6 = .ok (.invokevirtual 335, 3) := by decide +kernel
theorem dJ0_length_8abf5_9 : decode cJ0_length_8abf5 9 = .ok (.ishr, 1) := by decide +kernel
theorem dJ0_length_8abf5_10 : decode cJ0_length_8abf5 10 = .ok (.ireturn, 1) := by decide +kernel
theorem dJ0_indexOf_0f7a4_0 : decode cJ0_indexOf_0f7a4 0 = .ok (.aload_n 0, 1) := by decide +kernel
theorem dJ0_indexOf_0f7a4_1 : decode cJ0_indexOf_0f7a4 1 = .ok (.iload_n 1, 1) := by decide +kernel
theorem dJ0_indexOf_0f7a4_2 : decode cJ0_indexOf_0f7a4 2 = .ok (.iconst 0, 1) := by decide +kernel
theorem dJ0_indexOf_0f7a4_3 : decode cJ0_indexOf_0f7a4 3 = .ok (.invokevirtual 633, 3) := by decide +kernel
theorem dJ0_indexOf_0f7a4_6 : decode cJ0_indexOf_0f7a4 6 = .ok (.ireturn, 1) := by decide +kernel
theorem dJ0_indexOf_7cf53_0 : decode cJ0_indexOf_7cf53 0 = .ok (.aload_n 0, 1) := by decide +kernel
theorem dJ0_indexOf_7cf53_1 : decode cJ0_indexOf_7cf53 1 = .ok (.invokevirtual 492, 3) := by decide +kernel
theorem dJ0_indexOf_7cf53_4 : decode cJ0_indexOf_7cf53 4 = .ok (.ifCond .eq 19, 3) := by decide +kernel
theorem dJ0_indexOf_7cf53_7 : decode cJ0_indexOf_7cf53 7 = .ok (.aload_n 0, 1) := by decide +kernel
theorem dJ0_indexOf_7cf53_8 : decode cJ0_indexOf_7cf53 8 = .ok (.getfield 9, 3) := by decide +kernel
theorem dJ0_indexOf_7cf53_11 : decode cJ0_indexOf_7cf53 11 = .ok (.iload_n 1, 1) := by decide +kernel
theorem dJ0_indexOf_7cf53_12 : decode cJ0_indexOf_7cf53 12 = .ok (.iload_n 2, 1) := by decide +kernel
theorem dJ0_indexOf_7cf53_13 : decode cJ0_indexOf_7cf53 13 = .ok (.aload_n 0, 1) := by decide +kernel
theorem dJ0_indexOf_7cf53_14 : decode cJ0_indexOf_7cf53 14 = .ok (.invokevirtual 505, 3) := by decide +kernel
theorem dJ0_indexOf_7cf53_17 : decode cJ0_indexOf_7cf53 17 = .ok (.invokestatic 637, 3) := by decide +kernel
theorem dJ0_indexOf_7cf53_20 : decode cJ0_indexOf_7cf53 20 = .ok (.goto 16, 3) := by decide +kernel
theorem dJ0_indexOf_7cf53_23 : decode cJ0_indexOf_7cf53 23 = .ok (.aload_n 0, 1) := by decide +kernel
theorem dJ0_indexOf_7cf53_24 : decode cJ0_indexOf_7cf53 24 = .ok (.getfield 9, 3) := by decide +kernel
theorem dJ0_indexOf_7cf53_27 : decode cJ0_indexOf_7cf53 27 = .ok (.iload_n 1, 1) := by decide +kernel
theorem dJ0_indexOf_7cf53_28 : decode cJ0_indexOf_7cf53 28 = .ok (.iload_n 2, 1) := by decide +kernel
theorem dJ0_indexOf_7cf53_29 : decode cJ0_indexOf_7cf53 29 = .ok (.aload_n 0, 1) := by decide +kernel
theorem dJ0_indexOf_7cf53_30 : decode cJ0_indexOf_7cf53 30 = .ok (.invokevirtual 505, 3) := by decide +kernel
theorem dJ0_indexOf_7cf53_33 : decode cJ0_indexOf_7cf53 33 = .ok (.invokestatic 640, 3) := by decide +kernel
theorem dJ0_indexOf_7cf53_36 : decode cJ0_indexOf_7cf53 36 = .ok (.ireturn, 1) := by decide +kernel
theorem dJ0_coder_7d493_0 : decode cJ0_coder_7d493 0 = .ok (.getstatic 38, 3) := by decide +kernel
theorem dJ0_coder_7d493_3 : decode cJ0_coder_7d493 3 = .ok (.ifCond .eq 10, 3) := by decide +kernel
theorem dJ0_coder_7d493_6 : decode cJ0_coder_7d493 6 = .ok (.aload_n 0, 1) := by decide +kernel
theorem dJ0_coder_7d493_7 : decode cJ0_coder_7d493 7 = .ok (.getfield 15, 3) := by decide +kernel
theorem dJ0_coder_7d493_10 : decode cJ0_coder_7d493 10 = .ok (.goto 4, 3) := by decide +kernel
theorem dJ0_coder_7d493_13 : decode cJ0_coder_7d493 13 = .ok (.iconst 1, 1) := by decide +kernel
theorem dJ0_coder_7d493_14 : decode cJ0_coder_7d493 14 = .ok (.ireturn, 1) := by decide +kernel
theorem dJ0_isLatin1_aae02_0 : decode cJ0_isLatin1_aae02 0 = .ok (.getstatic 38, 3) := by decide +kernel
theorem dJ0_isLatin1_aae02_3 : decode cJ0_isLatin1_aae02 3 = .ok (.ifCond .eq 14, 3) := by decide +kernel
theorem dJ0_isLatin1_aae02_6 : decode cJ0_isLatin1_aae02 6 = .ok (.aload_n 0, 1) := by decide +kernel
theorem dJ0_isLatin1_aae02_7 : decode cJ0_isLatin1_aae02 7 = .ok (.getfield 15, 3) := by decide +kernel
theorem dJ0_isLatin1_aae02_10 : decode cJ0_isLatin1_aae02 10 = .ok (.ifCond .ne 7, 3) := by decide +kernel
theorem dJ0_isLatin1_aae02_13 : decode cJ0_isLatin1_aae02 13 = .ok (.iconst 1, 1) := by decide +kernel
theorem dJ0_isLatin1_aae02_14 : decode cJ0_isLatin1_aae02 14 = .ok (.goto 4, 3) := by decide +kernel
theorem dJ0_isLatin1_aae02_17 : decode cJ0_isLatin1_aae02 17 = .ok (.iconst 0, 1) := by decide +kernel
theorem dJ0_isLatin1_aae02_18 : decode cJ0_isLatin1_aae02 18 = .ok (.ireturn, 1) := by decide +kernel
theorem dJ0_checkBoundsBeginEnd_23922_0 : decode cJ0_checkBoundsBeginEnd_23922 0 = .ok (.iload_n 0, 1) := by decide +kernel
theorem dJ0_checkBoundsBeginEnd_23922_1 : decode cJ0_checkBoundsBeginEnd_23922 1 = .ok (.iload_n 1, 1) := by decide +kernel
theorem dJ0_checkBoundsBeginEnd_23922_2 : decode cJ0_checkBoundsBeginEnd_23922 2 = .ok (.iload_n 2, 1) := by decide +kernel
theorem dJ0_checkBoundsBeginEnd_23922_3 : decode cJ0_checkBoundsBeginEnd_23922 3 = .ok (.getstatic 1053, 3) := by decide +kernel
theorem dJ0_checkBoundsBeginEnd_23922_6 : decode cJ0_checkBoundsBeginEnd_23922 6 = .ok (.invokestatic 1062, 3) := by decide +kernel
theorem dJ0_checkBoundsBeginEnd_23922_9 : decode cJ0_checkBoundsBeginEnd_23922 9 = .ok (.pop, 1) := by decide +kernel
theorem dJ0_checkBoundsBeginEnd_23922_10 : decode cJ0_checkBoundsBeginEnd_23922 10 = .ok (.return_, 1) := by decide +kernel
theorem dJ1_canEncode_9a6ad_0 : decode cJ1_canEncode_9a6ad 0 = .ok (.iload_n 0, 1) := by decide +kernel
theorem dJ1_canEncode_9a6ad_1 : decode cJ1_canEncode_9a6ad 1 = .ok (.ifCond .lt 14, 3) := by decide +kernel
theorem dJ1_canEncode_9a6ad_4 : decode cJ1_canEncode_9a6ad 4 = .ok (.iload_n 0, 1) := by decide +kernel
theorem dJ1_canEncode_9a6ad_5 : decode cJ1_canEncode_9a6ad 5 = .ok (.sipush 255, 3) := by decide +kernel
theorem dJ1_canEncode_9a6ad_8 : decode cJ1_canEncode_9a6ad 8 = .ok (.if_icmp .gt 7, 3) := by decide +kernel
theorem dJ1_canEncode_9a6ad_11 : decode cJ1_canEncode_9a6ad 11 = .ok (.iconst 1, 1) := by decide +kernel
theorem dJ1_canEncode_9a6ad_12 : decode cJ1_canEncode_9a6ad 12 = .ok (.goto 4, 3) := by decide +kernel
theorem dJ1_canEncode_9a6ad_15 : decode cJ1_canEncode_9a6ad 15 = .ok (.iconst 0, 1) := by decide +kernel
theorem dJ1_canEncode_9a6ad_16 : decode cJ1_canEncode_9a6ad 16 = .ok (.ireturn, 1) := by decide +kernel
theorem dJ1_indexOf_4cfef_0 : decode cJ1_indexOf_4cfef 0 = .ok (.iload_n 1, 1) := by decide +kernel
theorem dJ1_indexOf_4cfef_1 : decode cJ1_indexOf_4cfef 1 = .ok (.invokestatic 88, 3) := by decide +kernel
theorem dJ1_indexOf_4cfef_4 : decode cJ1_indexOf_4cfef 4 = .ok (.ifCond .ne 5, 3) := by decide +kernel
theorem dJ1_indexOf_4cfef_7 : decode cJ1_indexOf_4cfef 7 = .ok (.iconst (-1), 1) := by decide +kernel
theorem dJ1_indexOf_4cfef_8 : decode cJ1_indexOf_4cfef 8 = .ok (.ireturn, 1) := by decide +kernel
theorem dJ1_indexOf_4cfef_9 : decode cJ1_indexOf_4cfef 9 = .ok (.iload_n 2, 1) := by decide +kernel
theorem dJ1_indexOf_4cfef_10 : decode cJ1_indexOf_4cfef 10 = .ok (.iconst 0, 1) := by decide +kernel
theorem dJ1_indexOf_4cfef_11 : decode cJ1_indexOf_4cfef 11 = .ok (.invokestatic 92, 3) := by decide +kernel
theorem dJ1_indexOf_4cfef_14 : decode cJ1_indexOf_4cfef 14 = .ok (.istore_n 2, 1) := by decide +kernel
theorem dJ1_indexOf_4cfef_15 : decode cJ1_indexOf_4cfef 15 = .ok (.iload_n 3, 1) := by decide +kernel
theorem dJ1_indexOf_4cfef_16 : decode cJ1_indexOf_4cfef 16 = .ok (.aload_n 0, 1) := by decide +kernel
theorem dJ1_indexOf_4cfef_17 : decode cJ1_indexOf_4cfef 17 = .ok (.arraylength, 1) := by decide +kernel
theorem dJ1_indexOf_4cfef_18 : decode cJ1_indexOf_4cfef 18 = .ok (.invokestatic 38, 3) := by decide +kernel
theorem dJ1_indexOf_4cfef_21 : decode cJ1_indexOf_4cfef 21 = .ok (.istore_n 3, 1) := by decide +kernel
theorem dJ1_indexOf_4cfef_22 : decode cJ1_indexOf_4cfef 22 = .ok (.iload_n 2, 1) := by decide +kernel
theorem dJ1_indexOf_4cfef_23 : decode cJ1_indexOf_4cfef 23 = .ok (.iload_n 3, 1) := by decide +kernel
theorem dJ1_indexOf_4cfef_24 : decode cJ1_indexOf_4cfef 24 = .ok (.if_icmp .lt 5, 3) := by decide +kernel
theorem dJ1_indexOf_4cfef_27 : decode cJ1_indexOf_4cfef 27 = .ok (.iconst (-1), 1) := by decide +kernel
theorem dJ1_indexOf_4cfef_28 : decode cJ1_indexOf_4cfef 28 = .ok (.ireturn, 1) := by decide +kernel
theorem dJ1_indexOf_4cfef_29 : decode cJ1_indexOf_4cfef 29 = .ok (.aload_n 0, 1) := by decide +kernel
theorem dJ1_indexOf_4cfef_30 : decode cJ1_indexOf_4cfef 30 = .ok (.iload_n 1, 1) := by decide +kernel
theorem dJ1_indexOf_4cfef_31 : decode cJ1_indexOf_4cfef 31 = .ok (.iload_n 2, 1) := by decide +kernel
theorem dJ1_indexOf_4cfef_32 : decode cJ1_indexOf_4cfef 32 = .ok (.iload_n 3, 1) := by decide +kernel
theorem dJ1_indexOf_4cfef_33 : decode cJ1_indexOf_4cfef 33 = .ok (.invokestatic 95, 3) := by decide +kernel
theorem dJ1_indexOf_4cfef_36 : decode cJ1_indexOf_4cfef 36 = .ok (.ireturn, 1) := by decide +kernel
theorem dJ1_indexOfChar_4cfef_0 : decode cJ1_indexOfChar_4cfef 0 = .ok (.iload_n 1, 1) := by decide +kernel
theorem dJ1_indexOfChar_4cfef_1 : decode cJ1_indexOfChar_4cfef 1 = .ok (.i2b, 1) := by decide +kernel
theorem dJ1_indexOfChar_4cfef_2 : decode cJ1_indexOfChar_4cfef 2 = .ok (.istore 4, 2) := by decide +kernel
theorem dJ1_indexOfChar_4cfef_4 : decode cJ1_indexOfChar_4cfef 4 = .ok (.iload_n 2, 1) := by decide +kernel
theorem dJ1_indexOfChar_4cfef_5 : decode cJ1_indexOfChar_4cfef 5 = .ok (.istore 5, 2) := by decide +kernel
theorem dJ1_indexOfChar_4cfef_7 : decode cJ1_indexOfChar_4cfef 7 = .ok (.iload 5, 2) := by decide +kernel
theorem dJ1_indexOfChar_4cfef_9 : decode cJ1_indexOfChar_4cfef 9 = .ok (.iload_n 3, 1) := by decide +kernel
theorem dJ1_indexOfChar_4cfef_10 : decode cJ1_indexOfChar_4cfef 10 = .ok (.if_icmp .ge 21, 3) := by decide +kernel
theorem dJ1_indexOfChar_4cfef_13 : decode cJ1_indexOfChar_4cfef 13 = .ok (.aload_n 0, 1) := by decide +kernel
theorem dJ1_indexOfChar_4cfef_14 : decode cJ1_indexOfChar_4cfef 14 = .ok (.iload 5, 2) := by decide +kernel
theorem dJ1_indexOfChar_4cfef_16 : decode cJ1_indexOfChar_4cfef 16 = .ok (.baload, 1) := by decide +kernel
theorem dJ1_indexOfChar_4cfef_17 : decode cJ1_indexOfChar_4cfef 17 = .ok (.iload 4, 2) := by decide +kernel
theorem dJ1_indexOfChar_4cfef_19 : decode cJ1_indexOfChar_4cfef 19 = .ok (.if_icmp .ne 6, 3) := by decide +kernel
theorem dJ1_indexOfChar_4cfef_22 : decode cJ1_indexOfChar_4cfef 22 = .ok (.iload 5, 2) := by decide +kernel
theorem dJ1_indexOfChar_4cfef_24 : decode cJ1_indexOfChar_4cfef 24 = .ok (.ireturn, 1) := by decide +kernel
theorem dJ1_indexOfChar_4cfef_25 : decode cJ1_indexOfChar_4cfef 25 = .ok (.iinc 5 1, 3) := by decide +kernel
theorem dJ1_indexOfChar_4cfef_28 : decode cJ1_indexOfChar_4cfef 28 = .ok (.goto (-21), 3) := by decide +kernel
theorem dJ1_indexOfChar_4cfef_31 : decode cJ1_indexOfChar_4cfef 31 = .ok (.iconst (-1), 1) := by decide +kernel
theorem dJ1_indexOfChar_4cfef_32 : decode cJ1_indexOfChar_4cfef 32 = .ok (.ireturn, 1) := by decide +kernel
theorem dJ2_getChar_3b067_0 : decode cJ2_getChar_3b067 0 = .ok (.getstatic 44, 3) := by decide +kernel
theorem dJ2_getChar_3b067_3 : decode cJ2_getChar_3b067 3 = .ok (.ifCond .ne 25, 3) := by decide +kernel
theorem dJ2_getChar_3b067_6 : decode cJ2_getChar_3b067 6 = .ok (.iload_n 1, 1) := by decide +kernel
theorem dJ2_getChar_3b067_7 : decode cJ2_getChar_3b067 7 = .ok (.ifCond .lt 11, 3) := by decide +kernel
theorem dJ2_getChar_3b067_10 : decode cJ2_getChar_3b067 10 = .ok (.iload_n 1, 1) := by decide +kernel
theorem dJ2_getChar_3b067_11 : decode cJ2_getChar_3b067 11 = .ok (.aload_n 0, 1) := by decide +kernel
theorem dJ2_getChar_3b067_12 : decode cJ2_getChar_3b067 12 = .ok (.invokestatic 48, 3) := by decide +kernel
theorem dJ2_getChar_3b067_15 : decode cJ2_getChar_3b067 15 = .ok (.if_icmp .lt 13, 3) := by decide +kernel
theorem dJ2_getChar_3b067_18 : decode cJ2_getChar_3b067 18 = .ok (.new 52, 3) := by decide +kernel
theorem dJ2_getChar_3b067_21 : decode cJ2_getChar_3b067 21 = .ok (.dup, 1) := by decide +kernel
theorem dJ2_getChar_3b067_22 : decode cJ2_getChar_3b067 22 = .ok (.ldc 54, 2) := by decide +kernel
theorem dJ2_getChar_3b067_24 : decode cJ2_getChar_3b067 24 = .ok (.invokespecial 56, 3) := by decide +kernel
theorem dJ2_getChar_3b067_27 : decode cJ2_getChar_3b067 27 = .ok (.athrow, 1) := by decide +kernel
theorem dJ2_getChar_3b067_28 : decode cJ2_getChar_3b067 28 = .ok (.iload_n 1, 1) := by decide +kernel
theorem dJ2_getChar_3b067_29 : decode cJ2_getChar_3b067 29 = .ok (.iconst 1, 1) := by decide +kernel
theorem dJ2_getChar_3b067_30 : decode cJ2_getChar_3b067 30 = .ok (.ishl, 1) := by decide +kernel
theorem dJ2_getChar_3b067_31 : decode cJ2_getChar_3b067 31 = .ok (.istore_n 1, 1) := by decide +kernel
theorem dJ2_getChar_3b067_32 : decode cJ2_getChar_3b067 32 = .ok (.aload_n 0, 1) := by decide +kernel
theorem dJ2_getChar_3b067_33 : decode cJ2_getChar_3b067 33 = .ok (.iload_n 1, 1) := by decide +kernel
theorem dJ2_getChar_3b067_34 : decode cJ2_getChar_3b067 34 = .ok (.iinc 1 1, 3) := by decide +kernel
theorem dJ2_getChar_3b067_37 : decode cJ2_getChar_3b067 37 = .ok (.baload, 1) := by decide +kernel
theorem dJ2_getChar_3b067_38 : decode cJ2_getChar_3b067 38 = .ok (.sipush 255, 3) := by decide +kernel
theorem dJ2_getChar_3b067_41 : decode cJ2_getChar_3b067 41 = .ok (.iand, 1) := by decide +kernel
theorem dJ2_getChar_3b067_42 : decode cJ2_getChar_3b067 42 = .ok (.getstatic 59, 3) := by decide +kernel
theorem dJ2_getChar_3b067_45 : decode cJ2_getChar_3b067 45 = .ok (.ishl, 1) := by decide +kernel
theorem dJ2_getChar_3b067_46 : decode cJ2_getChar_3b067 46 = .ok (.aload_n 0, 1) := by decide +kernel
theorem dJ2_getChar_3b067_47 : decode cJ2_getChar_3b067 47 = .ok (.iload_n 1, 1) := by decide +kernel
theorem dJ2_getChar_3b067_48 : decode cJ2_getChar_3b067 48 = .ok (.baload, 1) := by decide +kernel
theorem dJ2_getChar_3b067_49 : decode cJ2_getChar_3b067 49 = .ok (.sipush 255, 3) := by decide +kernel
theorem dJ2_getChar_3b067_52 : decode cJ2_getChar_3b067 52 = .ok (.iand, 1) := by decide +kernel
theorem dJ2_getChar_3b067_53 : decode cJ2_getChar_3b067 53 = .ok (.getstatic 63, 3) := by decide +kernel
theorem dJ2_getChar_3b067_56 : decode cJ2_getChar_3b067 56 = .ok (.ishl, 1) := by decide +kernel
theorem dJ2_getChar_3b067_57 : decode cJ2_getChar_3b067 57 = .ok (.ior, 1) := by decide +kernel
theorem dJ2_getChar_3b067_58 : decode cJ2_getChar_3b067 58 = .ok (.i2c, 1) := by decide +kernel
theorem dJ2_getChar_3b067_59 : decode cJ2_getChar_3b067 59 = .ok (.ireturn, 1) := by decide +kernel
theorem dJ2_length_9d52b_0 : decode cJ2_length_9d52b 0 = .ok (.aload_n 0, 1) := by decide +kernel
theorem dJ2_length_9d52b_1 : decode cJ2_length_9d52b 1 = .ok (.arraylength, 1) := by decide +kernel
theorem dJ2_length_9d52b_2 : decode cJ2_length_9d52b 2 = .ok (.iconst 1, 1) := by decide +kernel
theorem dJ2_length_9d52b_3 : decode cJ2_length_9d52b 3 = .ok (.ishr, 1) := by decide +kernel
theorem dJ2_length_9d52b_4 : decode cJ2_length_9d52b 4 = .ok (.ireturn, 1) := by decide +kernel
theorem dJ2_indexOf_4cfef_0 : decode cJ2_indexOf_4cfef 0 = .ok (.iload_n 2, 1) := by decide +kernel
theorem dJ2_indexOf_4cfef_1 : decode cJ2_indexOf_4cfef 1 = .ok (.iconst 0, 1) := by decide +kernel
theorem dJ2_indexOf_4cfef_2 : decode cJ2_indexOf_4cfef 2 = .ok (.invokestatic 224, 3) := by decide +kernel
theorem dJ2_indexOf_4cfef_5 : decode cJ2_indexOf_4cfef 5 = .ok (.istore_n 2, 1) := by decide +kernel
theorem dJ2_indexOf_4cfef_6 : decode cJ2_indexOf_4cfef 6 = .ok (.iload_n 3, 1) := by decide +kernel
theorem dJ2_indexOf_4cfef_7 : decode cJ2_indexOf_4cfef 7 = .ok (.aload_n 0, 1) := by decide +kernel
theorem dJ2_indexOf_4cfef_8 : decode cJ2_indexOf_4cfef 8 = .ok (.arraylength, 1) := by decide +kernel
theorem dJ2_indexOf_4cfef_9 : decode cJ2_indexOf_4cfef 9 = .ok (.iconst 1, 1) := by decide +kernel
theorem dJ2_indexOf_4cfef_10 : decode cJ2_indexOf_4cfef 10 = .ok (.ishr, 1) := by decide +kernel
theorem dJ2_indexOf_4cfef_11 : decode cJ2_indexOf_4cfef 11 = .ok (.invokestatic 183, 3) := by decide +kernel
theorem dJ2_indexOf_4cfef_14 : decode cJ2_indexOf_4cfef 14 = .ok (.istore_n 3, 1) := by decide +kernel
theorem dJ2_indexOf_4cfef_15 : decode cJ2_indexOf_4cfef 15 = .ok (.iload_n 2, 1) := by decide +kernel
theorem dJ2_indexOf_4cfef_16 : decode cJ2_indexOf_4cfef 16 = .ok (.iload_n 3, 1) := by decide +kernel
theorem dJ2_indexOf_4cfef_17 : decode cJ2_indexOf_4cfef 17 = .ok (.if_icmp .lt 5, 3) := by decide +kernel
theorem dJ2_indexOf_4cfef_20 : decode cJ2_indexOf_4cfef 20 = .ok (.iconst (-1), 1) := by decide +kernel
theorem dJ2_indexOf_4cfef_21 : decode cJ2_indexOf_4cfef 21 = .ok (.ireturn, 1) := by decide +kernel
theorem dJ2_indexOf_4cfef_22 : decode cJ2_indexOf_4cfef 22 = .ok (.iload_n 1, 1) := by decide +kernel
theorem dJ2_indexOf_4cfef_23 : decode cJ2_indexOf_4cfef 23 = .ok (.ldc 227, 2) := by decide +kernel
theorem dJ2_indexOf_4cfef_25 : decode cJ2_indexOf_4cfef 25 = .ok (.if_icmp .ge 11, 3) := by decide +kernel
theorem dJ2_indexOf_4cfef_28 : decode cJ2_indexOf_4cfef 28 = .ok (.aload_n 0, 1) := by decide +kernel
theorem dJ2_indexOf_4cfef_29 : decode cJ2_indexOf_4cfef 29 = .ok (.iload_n 1, 1) := by decide +kernel
theorem dJ2_indexOf_4cfef_30 : decode cJ2_indexOf_4cfef 30 = .ok (.iload_n 2, 1) := by decide +kernel
theorem dJ2_indexOf_4cfef_31 : decode cJ2_indexOf_4cfef 31 = .ok (.iload_n 3, 1) := by decide +kernel
theorem dJ2_indexOf_4cfef_32 : decode cJ2_indexOf_4cfef 32 = .ok (.invokestatic 228, 3) := by decide +kernel
theorem dJ2_indexOf_4cfef_35 : decode cJ2_indexOf_4cfef 35 = .ok (.ireturn, 1) := by decide +kernel
theorem dJ2_indexOf_4cfef_36 : decode cJ2_indexOf_4cfef 36 = .ok (.aload_n 0, 1) := by decide +kernel
theorem dJ2_indexOf_4cfef_37 : decode cJ2_indexOf_4cfef 37 = .ok (.iload_n 1, 1) := by decide +kernel
theorem dJ2_indexOf_4cfef_38 : decode cJ2_indexOf_4cfef 38 = .ok (.iload_n 2, 1) := by decide +kernel
theorem dJ2_indexOf_4cfef_39 : decode cJ2_indexOf_4cfef 39 = .ok (.iload_n 3, 1) := by decide +kernel
theorem dJ2_indexOf_4cfef_40 : decode cJ2_indexOf_4cfef 40 = .ok (.invokestatic 232, 3) := by decide +kernel
theorem dJ2_indexOf_4cfef_43 : decode cJ2_indexOf_4cfef 43 = .ok (.ireturn, 1) := by decide +kernel
theorem dJ2_indexOfChar_4cfef_0 : decode cJ2_indexOfChar_4cfef 0 = .ok (.iload_n 2, 1) := by decide +kernel
theorem dJ2_indexOfChar_4cfef_1 : decode cJ2_indexOfChar_4cfef 1 = .ok (.iload_n 3, 1) := by decide +kernel
theorem dJ2_indexOfChar_4cfef_2 : decode cJ2_indexOfChar_4cfef 2 = .ok (.aload_n 0, 1) := by decide +kernel
theorem dJ2_indexOfChar_4cfef_3 : decode cJ2_indexOfChar_4cfef 3 = .ok (.invokestatic 96, 3) := by decide +kernel
theorem dJ2_indexOfChar_4cfef_6 : decode cJ2_indexOfChar_4cfef 6 = .ok (.aload_n 0, 1) := by decide +kernel
theorem dJ2_indexOfChar_4cfef_7 : decode cJ2_indexOfChar_4cfef 7 = .ok (.iload_n 1, 1) := by decide +kernel
theorem dJ2_indexOfChar_4cfef_8 : decode cJ2_indexOfChar_4cfef 8 = .ok (.iload_n 2, 1) := by decide +kernel
theorem dJ2_indexOfChar_4cfef_9 : decode cJ2_indexOfChar_4cfef 9 = .ok (.iload_n 3, 1) := by decide +kernel
theorem dJ2_indexOfChar_4cfef_10 : decode cJ2_indexOfChar_4cfef 10 = .ok (.invokestatic 244, 3) := by decide +kernel
theorem dJ2_indexOfChar_4cfef_13 : decode cJ2_indexOfChar_4cfef 13 = .ok (.ireturn, 1) := by decide +kernel
theorem dJ2_indexOfCharUnsafe_4cfef_0 : decode cJ2_indexOfCharUnsafe_4cfef 0 = .ok (.iload_n 2, 1) := by decide +kernel
theorem dJ2_indexOfCharUnsafe_4cfef_1 : decode cJ2_indexOfCharUnsafe_4cfef 1 = .ok (.istore 4, 2) := by decide +kernel
theorem dJ2_indexOfCharUnsafe_4cfef_3 : decode cJ2_indexOfCharUnsafe_4cfef 3 = .ok (.iload 4, 2) := by decide +kernel
theorem dJ2_indexOfCharUnsafe_4cfef_5 : decode cJ2_indexOfCharUnsafe_4cfef 5 = .ok (.iload_n 3, 1) := by decide +kernel
theorem dJ2_indexOfCharUnsafe_4cfef_6 : decode cJ2_indexOfCharUnsafe_4cfef 6 = .ok (.if_icmp .ge 22, 3) := by decide +kernel
theorem dJ2_indexOfCharUnsafe_4cfef_9 : decode cJ2_indexOfCharUnsafe_4cfef 9 = .ok (.aload_n 0, 1) := by decide +kernel
theorem dJ2_indexOfCharUnsafe_4cfef_10 : decode cJ2_indexOfCharUnsafe_4cfef 10 = .ok (.iload 4, 2) := by decide +kernel
theorem dJ2_indexOfCharUnsafe_4cfef_12 : decode cJ2_indexOfCharUnsafe_4cfef 12 = .ok (.invokestatic 71, 3) := by decide +kernel
theorem dJ2_indexOfCharUnsafe_4cfef_15 : decode cJ2_indexOfCharUnsafe_4cfef 15 = .ok (.iload_n 1, 1) := by decide +kernel
theorem dJ2_indexOfCharUnsafe_4cfef_16 : decode cJ2_indexOfCharUnsafe_4cfef 16 = .ok (.if_icmp .ne 6, 3) := by decide +kernel
theorem dJ2_indexOfCharUnsafe_4cfef_19 : decode cJ2_indexOfCharUnsafe_4cfef 19 = .ok (.iload 4, 2) := by decide +kernel
theorem dJ2_indexOfCharUnsafe_4cfef_21 : decode cJ2_indexOfCharUnsafe_4cfef 21 = .ok (.ireturn, 1) := by decide +kernel
theorem dJ2_indexOfCharUnsafe_4cfef_22 : decode cJ2_indexOfCharUnsafe_4cfef 22 = .ok (.iinc 4 1, 3) := by decide +kernel
theorem dJ2_indexOfCharUnsafe_4cfef_25 : decode cJ2_indexOfCharUnsafe_4cfef 25 = .ok (.goto (-22), 3) := by decide +kernel
theorem dJ2_indexOfCharUnsafe_4cfef_28 : decode cJ2_indexOfCharUnsafe_4cfef 28 = .ok (.iconst (-1), 1) := by decide +kernel
theorem dJ2_indexOfCharUnsafe_4cfef_29 : decode cJ2_indexOfCharUnsafe_4cfef 29 = .ok (.ireturn, 1) := by decide +kernel
theorem dJ2_indexOfSupplementary_4cfef_0 : decode cJ2_indexOfSupplementary_4cfef 0 = .ok (.iload_n 1, 1) := by decide +kernel
theorem dJ2_indexOfSupplementary_4cfef_1 : decode cJ2_indexOfSupplementary_4cfef 1 = .ok (.invokestatic 164, 3) := by decide +kernel
theorem dJ2_indexOfSupplementary_4cfef_4 : decode cJ2_indexOfSupplementary_4cfef 4 = .ok (.ifCond .eq 65, 3) := by decide +kernel
theorem dJ2_indexOfSupplementary_4cfef_7 : decode cJ2_indexOfSupplementary_4cfef 7 = .ok (.iload_n 1, 1) := by decide +kernel
theorem dJ2_indexOfSupplementary_4cfef_8 : decode cJ2_indexOfSupplementary_4cfef 8 = .ok (.invokestatic 157, 3) := by decide +kernel
theorem dJ2_indexOfSupplementary_4cfef_11 : decode cJ2_indexOfSupplementary_4cfef 11 = .ok (.istore 4, 2) := by decide +kernel
theorem dJ2_indexOfSupplementary_4cfef_13 : decode cJ2_indexOfSupplementary_4cfef 13 = .ok (.iload_n 1, 1) := by decide +kernel
theorem dJ2_indexOfSupplementary_4cfef_14 : decode cJ2_indexOfSupplementary_4cfef 14 = .ok (.invokestatic 161, 3) := by decide +kernel
theorem dJ2_indexOfSupplementary_4cfef_17 : decode cJ2_indexOfSupplementary_4cfef 17 = .ok (.istore 5, 2) := by decide +kernel
theorem dJ2_indexOfSupplementary_4cfef_19 : decode cJ2_indexOfSupplementary_4cfef 19 = .ok (.iload_n 2, 1) := by decide +kernel
theorem dJ2_indexOfSupplementary_4cfef_20 : decode cJ2_indexOfSupplementary_4cfef 20 = .ok (.iload_n 3, 1) := by decide +kernel
theorem dJ2_indexOfSupplementary_4cfef_21 : decode cJ2_indexOfSupplementary_4cfef 21 = .ok (.aload_n 0, 1) := by decide +kernel
theorem dJ2_indexOfSupplementary_4cfef_22 : decode cJ2_indexOfSupplementary_4cfef 22 = .ok (.invokestatic 96, 3) := by decide +kernel
theorem dJ2_indexOfSupplementary_4cfef_25 : decode cJ2_indexOfSupplementary_4cfef 25 = .ok (.iload_n 2, 1) := by decide +kernel
theorem dJ2_indexOfSupplementary_4cfef_26 : decode cJ2_indexOfSupplementary_4cfef 26 = .ok (.istore 6, 2) := by decide +kernel
theorem dJ2_indexOfSupplementary_4cfef_28 : decode cJ2_indexOfSupplementary_4cfef 28 = .ok (.iload 6, 2) := by decide +kernel
theorem dJ2_indexOfSupplementary_4cfef_30 : decode cJ2_indexOfSupplementary_4cfef 30 = .ok (.iload_n 3, 1) := by decide +kernel
theorem dJ2_indexOfSupplementary_4cfef_31 : decode cJ2_indexOfSupplementary_4cfef 31 = .ok (.iconst 1, 1) := by decide +kernel
theorem dJ2_indexOfSupplementary_4cfef_32 : decode cJ2_indexOfSupplementary_4cfef 32 = .ok (.isub, 1) := by decide +kernel
theorem dJ2_indexOfSupplementary_4cfef_33 : decode cJ2_indexOfSupplementary_4cfef 33 = .ok (.if_icmp .ge 36, 3) := by decide +kernel
theorem dJ2_indexOfSupplementary_4cfef_36 : decode cJ2_indexOfSupplementary_4cfef 36 = .ok (.aload_n 0, 1) := by decide +kernel
theorem dJ2_indexOfSupplementary_4cfef_37 : decode cJ2_indexOfSupplementary_4cfef 37 = .ok (.iload 6, 2) := by decide +kernel
theorem dJ2_indexOfSupplementary_4cfef_39 : decode cJ2_indexOfSupplementary_4cfef 39 = .ok (.invokestatic 71, 3) := by decide +kernel
theorem dJ2_indexOfSupplementary_4cfef_42 : decode cJ2_indexOfSupplementary_4cfef 42 = .ok (.iload 4, 2) := by decide +kernel
theorem dJ2_indexOfSupplementary_4cfef_44 : decode cJ2_indexOfSupplementary_4cfef 44 = .ok (.if_icmp .ne 19, 3) := by decide +kernel
theorem dJ2_indexOfSupplementary_4cfef_47 : decode cJ2_indexOfSupplementary_4cfef 47 = .ok (.aload_n 0, 1) := by decide +kernel
theorem dJ2_indexOfSupplementary_4cfef_48 : decode cJ2_indexOfSupplementary_4cfef 48 = .ok (.iload 6, 2) := by decide +kernel
theorem dJ2_indexOfSupplementary_4cfef_50 : decode cJ2_indexOfSupplementary_4cfef 50 = .ok (.iconst 1, 1) := by decide +kernel
theorem dJ2_indexOfSupplementary_4cfef_51 : decode cJ2_indexOfSupplementary_4cfef 51 = .ok (.iadd, 1) := by decide +kernel
theorem dJ2_indexOfSupplementary_4cfef_52 : decode cJ2_indexOfSupplementary_4cfef 52 = .ok (.invokestatic 71, 3) := by decide +kernel
theorem dJ2_indexOfSupplementary_4cfef_55 : decode cJ2_indexOfSupplementary_4cfef 55 = .ok (.iload 5, 2) := by decide +kernel
theorem dJ2_indexOfSupplementary_4cfef_57 : decode cJ2_indexOfSupplementary_4cfef 57 = .ok (.if_icmp .ne 6, 3) := by decide +kernel
theorem dJ2_indexOfSupplementary_4cfef_60 : decode cJ2_indexOfSupplementary_4cfef 60 = .ok (.iload 6, 2) := by decide +kernel
theorem dJ2_indexOfSupplementary_4cfef_62 : decode cJ2_indexOfSupplementary_4cfef 62 = .ok (.ireturn, 1) := by decide +kernel
theorem dJ2_indexOfSupplementary_4cfef_63 : decode cJ2_indexOfSupplementary_4cfef 63 = .ok (.iinc 6 1, 3) := by decide +kernel
theorem dJ2_indexOfSupplementary_4cfef_66 : decode cJ2_indexOfSupplementary_4cfef 66 = .ok (.goto (-38), 3) := by decide +kernel
theorem dJ2_indexOfSupplementary_4cfef_69 : decode cJ2_indexOfSupplementary_4cfef 69 = .ok (.iconst (-1), 1) := by decide +kernel
theorem dJ2_indexOfSupplementary_4cfef_70 : decode cJ2_indexOfSupplementary_4cfef 70 = .ok (.ireturn, 1) := by decide +kernel
theorem dJ2_checkBoundsBeginEnd_d044e_0 : decode cJ2_checkBoundsBeginEnd_d044e 0 = .ok (.iload_n 0, 1) := by decide +kernel
theorem dJ2_checkBoundsBeginEnd_d044e_1 : decode cJ2_checkBoundsBeginEnd_d044e 1 = .ok (.iload_n 1, 1) := by decide +kernel
theorem dJ2_checkBoundsBeginEnd_d044e_2 : decode cJ2_checkBoundsBeginEnd_d044e 2 = .ok (.aload_n 2, 1) := by decide +kernel
theorem dJ2_checkBoundsBeginEnd_d044e_3 : decode cJ2_checkBoundsBeginEnd_d044e 3 = .ok (.invokestatic 48, 3) := by decide +kernel
theorem dJ2_checkBoundsBeginEnd_d044e_6 : decode cJ2_checkBoundsBeginEnd_d044e 6 = .ok (.invokestatic 241, 3) := by decide +kernel
theorem dJ2_checkBoundsBeginEnd_d044e_9 : decode cJ2_checkBoundsBeginEnd_d044e 9 = .ok (.return_, 1) := by decide +kernel
theorem dJ3_checkFromToIndex_8c36e_0 : decode cJ3_checkFromToIndex_8c36e 0 = .ok (.iload_n 0, 1) := by decide +kernel
theorem dJ3_checkFromToIndex_8c36e_1 : decode cJ3_checkFromToIndex_8c36e 1 = .ok (.ifCond .lt 13, 3) := by decide +kernel
theorem dJ3_checkFromToIndex_8c36e_4 : decode cJ3_checkFromToIndex_8c36e 4 = .ok (.iload_n 0, 1) := by decide +kernel
theorem dJ3_checkFromToIndex_8c36e_5 : decode cJ3_checkFromToIndex_8c36e 5 = .ok (.iload_n 1, 1) := by decide +kernel
theorem dJ3_checkFromToIndex_8c36e_6 : decode cJ3_checkFromToIndex_8c36e 6 = .ok (.if_icmp .gt 8, 3) := by decide +kernel
theorem dJ3_checkFromToIndex_8c36e_9 : decode cJ3_checkFromToIndex_8c36e 9 = .ok (.iload_n 1, 1) := by decide +kernel
theorem dJ3_checkFromToIndex_8c36e_10 : decode cJ3_checkFromToIndex_8c36e 10 = .ok (.iload_n 2, 1) := by decide +kernel
theorem dJ3_checkFromToIndex_8c36e_11 : decode cJ3_checkFromToIndex_8c36e 11 = .ok (.if_icmp .le 11, 3) := by decide +kernel
theorem dJ3_checkFromToIndex_8c36e_14 : decode cJ3_checkFromToIndex_8c36e 14 = .ok (.aload_n 3, 1) := by decide +kernel
theorem dJ3_checkFromToIndex_8c36e_15 : decode cJ3_checkFromToIndex_8c36e 15 = .ok (.iload_n 0, 1) := by decide +kernel
theorem dJ3_checkFromToIndex_8c36e_16 : decode cJ3_checkFromToIndex_8c36e 16 = .ok (.iload_n 1, 1) := by decide +kernel
theorem dJ3_checkFromToIndex_8c36e_17 : decode cJ3_checkFromToIndex_8c36e 17 = .ok (.iload_n 2, 1) := by decide +kernel
theorem dJ3_checkFromToIndex_8c36e_18 : decode cJ3_checkFromToIndex_8c36e 18 = .ok (.invokestatic 99, 3) := by decide +kernel
theorem dJ3_checkFromToIndex_8c36e_21 : decode cJ3_checkFromToIndex_8c36e 21 = .ok (.athrow, 1) := by decide +kernel
theorem dJ3_checkFromToIndex_8c36e_22 : decode cJ3_checkFromToIndex_8c36e 22 = .ok (.iload_n 0, 1) := by decide +kernel
theorem dJ3_checkFromToIndex_8c36e_23 : decode cJ3_checkFromToIndex_8c36e 23 = .ok (.ireturn, 1) := by decide +kernel
theorem dL_rests_0 : decode cL_rests 0 = .ok (.aload 5, 2) := by decide +kernel
theorem dL_rests_2 : decode cL_rests 2 = .ok (.iconst 0, 1) := by decide +kernel
theorem dL_rests_3 : decode cL_rests 3 = .ok (.aload_n 0, 1) := by decide +kernel
theorem dL_rests_4 : decode cL_rests 4 = .ok (.iload_n 1, 1) := by decide +kernel
theorem dL_rests_5 : decode cL_rests 5 = .ok (.iload_n 2, 1) := by decide +kernel
theorem dL_rests_6 : decode cL_rests 6 = .ok (.iload_n 3, 1) := by decide +kernel
theorem dL_rests_7 : decode cL_rests 7 = .ok (.iload 4, 2) := by decide +kernel
theorem dL_rests_9 : decode cL_rests 9 = .ok (.invokevirtual 7, 3) := by decide +kernel
theorem dL_rests_12 : decode cL_rests 12 = .ok (.i2l, 1) := by decide +kernel
theorem dL_rests_13 : decode cL_rests 13 = .ok (.lastore, 1) := by decide +kernel
theorem dL_rests_14 : decode cL_rests 14 = .ok (.goto 7, 3) := by decide +kernel
theorem dL_rests_17 : decode cL_rests 17 = .ok (.astore 6, 2) := by decide +kernel
theorem dL_rests_19 : decode cL_rests 19 = .ok (.iconst 1, 1) := by decide +kernel
theorem dL_rests_20 : decode cL_rests 20 = .ok (.ireturn, 1) := by decide +kernel
theorem dL_rests_21 : decode cL_rests 21 = .ok (.iconst 0, 1) := by decide +kernel
theorem dL_rests_22 : decode cL_rests 22 = .ok (.ireturn, 1) := by decide +kernel
theorem dL_law_0 : decode cL_law 0 = .ok (.new 8, 3) := by decide +kernel
theorem dL_law_3 : decode cL_law 3 = .ok (.dup, 1) := by decide +kernel
theorem dL_law_4 : decode cL_law 4 = .ok (.invokespecial 15, 3) := by decide +kernel
theorem dL_law_7 : decode cL_law 7 = .ok (.astore_n 1, 1) := by decide +kernel
theorem dL_law_8 : decode cL_law 8 = .ok (.new 16, 3) := by decide +kernel
theorem dL_law_11 : decode cL_law 11 = .ok (.dup, 1) := by decide +kernel
theorem dL_law_12 : decode cL_law 12 = .ok (.invokespecial 18, 3) := by decide +kernel
theorem dL_law_15 : decode cL_law 15 = .ok (.astore_n 2, 1) := by decide +kernel
theorem dL_law_16 : decode cL_law 16 = .ok (.iconst 1, 1) := by decide +kernel
theorem dL_law_17 : decode cL_law 17 = .ok (.newarray .long, 2) := by decide +kernel
theorem dL_law_19 : decode cL_law 19 = .ok (.astore_n 3, 1) := by decide +kernel
theorem dL_law_20 : decode cL_law 20 = .ok (.iconst 0, 1) := by decide +kernel
theorem dL_law_21 : decode cL_law 21 = .ok (.istore 4, 2) := by decide +kernel
theorem dL_law_23 : decode cL_law 23 = .ok (.iload 4, 2) := by decide +kernel
theorem dL_law_25 : decode cL_law 25 = .ok (.aload_n 0, 1) := by decide +kernel
theorem dL_law_26 : decode cL_law 26 = .ok (.arraylength, 1) := by decide +kernel
theorem dL_law_27 : decode cL_law 27 = .ok (.bipush 7, 2) := by decide +kernel
theorem dL_law_29 : decode cL_law 29 = .ok (.isub, 1) := by decide +kernel
theorem dL_law_30 : decode cL_law 30 = .ok (.if_icmp .gt 1280, 3) := by decide +kernel
theorem dL_law_33 : decode cL_law 33 = .ok (.aload_n 0, 1) := by decide +kernel
theorem dL_law_34 : decode cL_law 34 = .ok (.iload 4, 2) := by decide +kernel
theorem dL_law_36 : decode cL_law 36 = .ok (.iaload, 1) := by decide +kernel
theorem dL_law_37 : decode cL_law 37 = .ok (.bipush 63, 2) := by decide +kernel
theorem dL_law_39 : decode cL_law 39 = .ok (.iand, 1) := by decide +kernel
theorem dL_law_40 : decode cL_law 40 = .ok (.tableswitch 1264 0 34 #[156, 303, 316, 329, 366, 403, 428, 453, 478, 515, 528, 541, 566, 591, 616, 629, 666, 691, 716, 741, 766, 791, 828, 853, 878, 891, 904, 957, 982, 995, 1020, 1045, 1137, 1186, 1239], 156) := by decide +kernel
theorem dL_law_196 : decode cL_law 196 = .ok (.aload_n 1, 1) := by decide +kernel
theorem dL_law_197 : decode cL_law 197 = .ok (.aload_n 0, 1) := by decide +kernel
theorem dL_law_198 : decode cL_law 198 = .ok (.iload 4, 2) := by decide +kernel
theorem dL_law_200 : decode cL_law 200 = .ok (.iconst 1, 1) := by decide +kernel
theorem dL_law_201 : decode cL_law 201 = .ok (.iadd, 1) := by decide +kernel
theorem dL_law_202 : decode cL_law 202 = .ok (.iaload, 1) := by decide +kernel
theorem dL_law_203 : decode cL_law 203 = .ok (.i2l, 1) := by decide +kernel
theorem dL_law_204 : decode cL_law 204 = .ok (.bipush 32, 2) := by decide +kernel
theorem dL_law_206 : decode cL_law 206 = .ok (.lshl, 1) := by decide +kernel
theorem dL_law_207 : decode cL_law 207 = .ok (.aload_n 0, 1) := by decide +kernel
theorem dL_law_208 : decode cL_law 208 = .ok (.iload 4, 2) := by decide +kernel
theorem dL_law_210 : decode cL_law 210 = .ok (.iconst 2, 1) := by decide +kernel
theorem dL_law_211 : decode cL_law 211 = .ok (.iadd, 1) := by decide +kernel
theorem dL_law_212 : decode cL_law 212 = .ok (.iaload, 1) := by decide +kernel
theorem dL_law_213 : decode cL_law 213 = .ok (.i2l, 1) := by decide +kernel
theorem dL_law_214 : decode cL_law 214 = .ok (.ldc2_w 19, 3) := by decide +kernel
theorem dL_law_217 : decode cL_law 217 = .ok (.land, 1) := by decide +kernel
theorem dL_law_218 : decode cL_law 218 = .ok (.lor, 1) := by decide +kernel
theorem dL_law_219 : decode cL_law 219 = .ok (.aload_n 0, 1) := by decide +kernel
theorem dL_law_220 : decode cL_law 220 = .ok (.iload 4, 2) := by decide +kernel
theorem dL_law_222 : decode cL_law 222 = .ok (.iconst 3, 1) := by decide +kernel
theorem dL_law_223 : decode cL_law 223 = .ok (.iadd, 1) := by decide +kernel
theorem dL_law_224 : decode cL_law 224 = .ok (.iaload, 1) := by decide +kernel
theorem dL_law_225 : decode cL_law 225 = .ok (.i2l, 1) := by decide +kernel
theorem dL_law_226 : decode cL_law 226 = .ok (.bipush 32, 2) := by decide +kernel
theorem dL_law_228 : decode cL_law 228 = .ok (.lshl, 1) := by decide +kernel
theorem dL_law_229 : decode cL_law 229 = .ok (.aload_n 0, 1) := by decide +kernel
theorem dL_law_230 : decode cL_law 230 = .ok (.iload 4, 2) := by decide +kernel
theorem dL_law_232 : decode cL_law 232 = .ok (.iconst 4, 1) := by decide +kernel
theorem dL_law_233 : decode cL_law 233 = .ok (.iadd, 1) := by decide +kernel
theorem dL_law_234 : decode cL_law 234 = .ok (.iaload, 1) := by decide +kernel
theorem dL_law_235 : decode cL_law 235 = .ok (.i2l, 1) := by decide +kernel
theorem dL_law_236 : decode cL_law 236 = .ok (.ldc2_w 19, 3) := by decide +kernel
theorem dL_law_239 : decode cL_law 239 = .ok (.land, 1) := by decide +kernel
theorem dL_law_240 : decode cL_law 240 = .ok (.lor, 1) := by decide +kernel
theorem dL_law_241 : decode cL_law 241 = .ok (.aload_n 0, 1) := by decide +kernel
theorem dL_law_242 : decode cL_law 242 = .ok (.iload 4, 2) := by decide +kernel
theorem dL_law_244 : decode cL_law 244 = .ok (.iconst 5, 1) := by decide +kernel
theorem dL_law_245 : decode cL_law 245 = .ok (.iadd, 1) := by decide +kernel
theorem dL_law_246 : decode cL_law 246 = .ok (.iaload, 1) := by decide +kernel
theorem dL_law_247 : decode cL_law 247 = .ok (.i2l, 1) := by decide +kernel
theorem dL_law_248 : decode cL_law 248 = .ok (.bipush 32, 2) := by decide +kernel
theorem dL_law_250 : decode cL_law 250 = .ok (.lshl, 1) := by decide +kernel
theorem dL_law_251 : decode cL_law 251 = .ok (.aload_n 0, 1) := by decide +kernel
theorem dL_law_252 : decode cL_law 252 = .ok (.iload 4, 2) := by decide +kernel
theorem dL_law_254 : decode cL_law 254 = .ok (.bipush 6, 2) := by decide +kernel
theorem dL_law_256 : decode cL_law 256 = .ok (.iadd, 1) := by decide +kernel
theorem dL_law_257 : decode cL_law 257 = .ok (.iaload, 1) := by decide +kernel
theorem dL_law_258 : decode cL_law 258 = .ok (.i2l, 1) := by decide +kernel
theorem dL_law_259 : decode cL_law 259 = .ok (.ldc2_w 19, 3) := by decide +kernel
theorem dL_law_262 : decode cL_law 262 = .ok (.land, 1) := by decide +kernel
theorem dL_law_263 : decode cL_law 263 = .ok (.lor, 1) := by decide +kernel
theorem dL_law_264 : decode cL_law 264 = .ok (.invokevirtual 21, 3) := by decide +kernel
theorem dL_law_267 : decode cL_law 267 = .ok (.aload_n 2, 1) := by decide +kernel
theorem dL_law_268 : decode cL_law 268 = .ok (.aload_n 0, 1) := by decide +kernel
theorem dL_law_269 : decode cL_law 269 = .ok (.iload 4, 2) := by decide +kernel
theorem dL_law_271 : decode cL_law 271 = .ok (.iconst 1, 1) := by decide +kernel
theorem dL_law_272 : decode cL_law 272 = .ok (.iadd, 1) := by decide +kernel
theorem dL_law_273 : decode cL_law 273 = .ok (.iaload, 1) := by decide +kernel
theorem dL_law_274 : decode cL_law 274 = .ok (.i2l, 1) := by decide +kernel
theorem dL_law_275 : decode cL_law 275 = .ok (.bipush 32, 2) := by decide +kernel
theorem dL_law_277 : decode cL_law 277 = .ok (.lshl, 1) := by decide +kernel
theorem dL_law_278 : decode cL_law 278 = .ok (.aload_n 0, 1) := by decide +kernel
theorem dL_law_279 : decode cL_law 279 = .ok (.iload 4, 2) := by decide +kernel
theorem dL_law_281 : decode cL_law 281 = .ok (.iconst 2, 1) := by decide +kernel
theorem dL_law_282 : decode cL_law 282 = .ok (.iadd, 1) := by decide +kernel
theorem dL_law_283 : decode cL_law 283 = .ok (.iaload, 1) := by decide +kernel
theorem dL_law_284 : decode cL_law 284 = .ok (.i2l, 1) := by decide +kernel
theorem dL_law_285 : decode cL_law 285 = .ok (.ldc2_w 19, 3) := by decide +kernel
theorem dL_law_288 : decode cL_law 288 = .ok (.land, 1) := by decide +kernel
theorem dL_law_289 : decode cL_law 289 = .ok (.lor, 1) := by decide +kernel
theorem dL_law_290 : decode cL_law 290 = .ok (.aload_n 0, 1) := by decide +kernel
theorem dL_law_291 : decode cL_law 291 = .ok (.iload 4, 2) := by decide +kernel
theorem dL_law_293 : decode cL_law 293 = .ok (.iconst 3, 1) := by decide +kernel
theorem dL_law_294 : decode cL_law 294 = .ok (.iadd, 1) := by decide +kernel
theorem dL_law_295 : decode cL_law 295 = .ok (.iaload, 1) := by decide +kernel
theorem dL_law_296 : decode cL_law 296 = .ok (.i2l, 1) := by decide +kernel
theorem dL_law_297 : decode cL_law 297 = .ok (.bipush 32, 2) := by decide +kernel
theorem dL_law_299 : decode cL_law 299 = .ok (.lshl, 1) := by decide +kernel
theorem dL_law_300 : decode cL_law 300 = .ok (.aload_n 0, 1) := by decide +kernel
theorem dL_law_301 : decode cL_law 301 = .ok (.iload 4, 2) := by decide +kernel
theorem dL_law_303 : decode cL_law 303 = .ok (.iconst 4, 1) := by decide +kernel
theorem dL_law_304 : decode cL_law 304 = .ok (.iadd, 1) := by decide +kernel
theorem dL_law_305 : decode cL_law 305 = .ok (.iaload, 1) := by decide +kernel
theorem dL_law_306 : decode cL_law 306 = .ok (.i2l, 1) := by decide +kernel
theorem dL_law_307 : decode cL_law 307 = .ok (.ldc2_w 19, 3) := by decide +kernel
theorem dL_law_310 : decode cL_law 310 = .ok (.land, 1) := by decide +kernel
theorem dL_law_311 : decode cL_law 311 = .ok (.lor, 1) := by decide +kernel
theorem dL_law_312 : decode cL_law 312 = .ok (.aload_n 0, 1) := by decide +kernel
theorem dL_law_313 : decode cL_law 313 = .ok (.iload 4, 2) := by decide +kernel
theorem dL_law_315 : decode cL_law 315 = .ok (.iconst 5, 1) := by decide +kernel
theorem dL_law_316 : decode cL_law 316 = .ok (.iadd, 1) := by decide +kernel
theorem dL_law_317 : decode cL_law 317 = .ok (.iaload, 1) := by decide +kernel
theorem dL_law_318 : decode cL_law 318 = .ok (.i2l, 1) := by decide +kernel
theorem dL_law_319 : decode cL_law 319 = .ok (.bipush 32, 2) := by decide +kernel
theorem dL_law_321 : decode cL_law 321 = .ok (.lshl, 1) := by decide +kernel
theorem dL_law_322 : decode cL_law 322 = .ok (.aload_n 0, 1) := by decide +kernel
theorem dL_law_323 : decode cL_law 323 = .ok (.iload 4, 2) := by decide +kernel
theorem dL_law_325 : decode cL_law 325 = .ok (.bipush 6, 2) := by decide +kernel
theorem dL_law_327 : decode cL_law 327 = .ok (.iadd, 1) := by decide +kernel
theorem dL_law_328 : decode cL_law 328 = .ok (.iaload, 1) := by decide +kernel
theorem dL_law_329 : decode cL_law 329 = .ok (.i2l, 1) := by decide +kernel
theorem dL_law_330 : decode cL_law 330 = .ok (.ldc2_w 19, 3) := by decide +kernel
theorem dL_law_333 : decode cL_law 333 = .ok (.land, 1) := by decide +kernel
theorem dL_law_334 : decode cL_law 334 = .ok (.lor, 1) := by decide +kernel
theorem dL_law_335 : decode cL_law 335 = .ok (.invokevirtual 25, 3) := by decide +kernel
theorem dL_law_338 : decode cL_law 338 = .ok (.if_icmp .eq 966, 3) := by decide +kernel
theorem dL_law_341 : decode cL_law 341 = .ok (.iconst 0, 1) := by decide +kernel
theorem dL_law_342 : decode cL_law 342 = .ok (.ireturn, 1) := by decide +kernel
theorem dL_law_343 : decode cL_law 343 = .ok (.aload_n 1, 1) := by decide +kernel
theorem dL_law_344 : decode cL_law 344 = .ok (.invokevirtual 26, 3) := by decide +kernel
theorem dL_law_347 : decode cL_law 347 = .ok (.aload_n 2, 1) := by decide +kernel
theorem dL_law_348 : decode cL_law 348 = .ok (.invokevirtual 30, 3) := by decide +kernel
theorem dL_law_351 : decode cL_law 351 = .ok (.if_icmp .eq 953, 3) := by decide +kernel
theorem dL_law_354 : decode cL_law 354 = .ok (.iconst 0, 1) := by decide +kernel
theorem dL_law_355 : decode cL_law 355 = .ok (.ireturn, 1) := by decide +kernel
theorem dL_law_356 : decode cL_law 356 = .ok (.aload_n 1, 1) := by decide +kernel
theorem dL_law_357 : decode cL_law 357 = .ok (.invokevirtual 31, 3) := by decide +kernel
theorem dL_law_360 : decode cL_law 360 = .ok (.aload_n 2, 1) := by decide +kernel
theorem dL_law_361 : decode cL_law 361 = .ok (.invokevirtual 34, 3) := by decide +kernel
theorem dL_law_364 : decode cL_law 364 = .ok (.if_icmp .eq 940, 3) := by decide +kernel
theorem dL_law_367 : decode cL_law 367 = .ok (.iconst 0, 1) := by decide +kernel
theorem dL_law_368 : decode cL_law 368 = .ok (.ireturn, 1) := by decide +kernel
theorem dL_law_369 : decode cL_law 369 = .ok (.aload_n 1, 1) := by decide +kernel
theorem dL_law_370 : decode cL_law 370 = .ok (.aload_n 0, 1) := by decide +kernel
theorem dL_law_371 : decode cL_law 371 = .ok (.iload 4, 2) := by decide +kernel
theorem dL_law_373 : decode cL_law 373 = .ok (.iconst 1, 1) := by decide +kernel
theorem dL_law_374 : decode cL_law 374 = .ok (.iadd, 1) := by decide +kernel
theorem dL_law_375 : decode cL_law 375 = .ok (.iaload, 1) := by decide +kernel
theorem dL_law_376 : decode cL_law 376 = .ok (.aload_n 0, 1) := by decide +kernel
theorem dL_law_377 : decode cL_law 377 = .ok (.iload 4, 2) := by decide +kernel
theorem dL_law_379 : decode cL_law 379 = .ok (.iconst 2, 1) := by decide +kernel
theorem dL_law_380 : decode cL_law 380 = .ok (.iadd, 1) := by decide +kernel
theorem dL_law_381 : decode cL_law 381 = .ok (.iaload, 1) := by decide +kernel
theorem dL_law_382 : decode cL_law 382 = .ok (.invokevirtual 35, 3) := by decide +kernel
theorem dL_law_385 : decode cL_law 385 = .ok (.aload_n 2, 1) := by decide +kernel
theorem dL_law_386 : decode cL_law 386 = .ok (.aload_n 0, 1) := by decide +kernel
theorem dL_law_387 : decode cL_law 387 = .ok (.iload 4, 2) := by decide +kernel
theorem dL_law_389 : decode cL_law 389 = .ok (.iconst 1, 1) := by decide +kernel
theorem dL_law_390 : decode cL_law 390 = .ok (.iadd, 1) := by decide +kernel
theorem dL_law_391 : decode cL_law 391 = .ok (.iaload, 1) := by decide +kernel
theorem dL_law_392 : decode cL_law 392 = .ok (.aload_n 0, 1) := by decide +kernel
theorem dL_law_393 : decode cL_law 393 = .ok (.iload 4, 2) := by decide +kernel
theorem dL_law_395 : decode cL_law 395 = .ok (.iconst 2, 1) := by decide +kernel
theorem dL_law_396 : decode cL_law 396 = .ok (.iadd, 1) := by decide +kernel
theorem dL_law_397 : decode cL_law 397 = .ok (.iaload, 1) := by decide +kernel
theorem dL_law_398 : decode cL_law 398 = .ok (.invokevirtual 39, 3) := by decide +kernel
theorem dL_law_401 : decode cL_law 401 = .ok (.if_icmp .eq 903, 3) := by decide +kernel
theorem dL_law_404 : decode cL_law 404 = .ok (.iconst 0, 1) := by decide +kernel
theorem dL_law_405 : decode cL_law 405 = .ok (.ireturn, 1) := by decide +kernel
theorem dL_law_406 : decode cL_law 406 = .ok (.aload_n 1, 1) := by decide +kernel
theorem dL_law_407 : decode cL_law 407 = .ok (.aload_n 0, 1) := by decide +kernel
theorem dL_law_408 : decode cL_law 408 = .ok (.iload 4, 2) := by decide +kernel
theorem dL_law_410 : decode cL_law 410 = .ok (.iconst 1, 1) := by decide +kernel
theorem dL_law_411 : decode cL_law 411 = .ok (.iadd, 1) := by decide +kernel
theorem dL_law_412 : decode cL_law 412 = .ok (.iaload, 1) := by decide +kernel
theorem dL_law_413 : decode cL_law 413 = .ok (.aload_n 0, 1) := by decide +kernel
theorem dL_law_414 : decode cL_law 414 = .ok (.iload 4, 2) := by decide +kernel
theorem dL_law_416 : decode cL_law 416 = .ok (.iconst 2, 1) := by decide +kernel
theorem dL_law_417 : decode cL_law 417 = .ok (.iadd, 1) := by decide +kernel
theorem dL_law_418 : decode cL_law 418 = .ok (.iaload, 1) := by decide +kernel
theorem dL_law_419 : decode cL_law 419 = .ok (.invokevirtual 40, 3) := by decide +kernel
theorem dL_law_422 : decode cL_law 422 = .ok (.aload_n 2, 1) := by decide +kernel
theorem dL_law_423 : decode cL_law 423 = .ok (.aload_n 0, 1) := by decide +kernel
theorem dL_law_424 : decode cL_law 424 = .ok (.iload 4, 2) := by decide +kernel
theorem dL_law_426 : decode cL_law 426 = .ok (.iconst 1, 1) := by decide +kernel
theorem dL_law_427 : decode cL_law 427 = .ok (.iadd, 1) := by decide +kernel
theorem dL_law_428 : decode cL_law 428 = .ok (.iaload, 1) := by decide +kernel
theorem dL_law_429 : decode cL_law 429 = .ok (.aload_n 0, 1) := by decide +kernel
theorem dL_law_430 : decode cL_law 430 = .ok (.iload 4, 2) := by decide +kernel
theorem dL_law_432 : decode cL_law 432 = .ok (.iconst 2, 1) := by decide +kernel
theorem dL_law_433 : decode cL_law 433 = .ok (.iadd, 1) := by decide +kernel
theorem dL_law_434 : decode cL_law 434 = .ok (.iaload, 1) := by decide +kernel
theorem dL_law_435 : decode cL_law 435 = .ok (.invokevirtual 43, 3) := by decide +kernel
theorem dL_law_438 : decode cL_law 438 = .ok (.if_icmp .eq 866, 3) := by decide +kernel
theorem dL_law_441 : decode cL_law 441 = .ok (.iconst 0, 1) := by decide +kernel
theorem dL_law_442 : decode cL_law 442 = .ok (.ireturn, 1) := by decide +kernel
theorem dL_law_443 : decode cL_law 443 = .ok (.aload_n 1, 1) := by decide +kernel
theorem dL_law_444 : decode cL_law 444 = .ok (.aload_n 0, 1) := by decide +kernel
theorem dL_law_445 : decode cL_law 445 = .ok (.iload 4, 2) := by decide +kernel
theorem dL_law_447 : decode cL_law 447 = .ok (.iconst 1, 1) := by decide +kernel
theorem dL_law_448 : decode cL_law 448 = .ok (.iadd, 1) := by decide +kernel
theorem dL_law_449 : decode cL_law 449 = .ok (.iaload, 1) := by decide +kernel
theorem dL_law_450 : decode cL_law 450 = .ok (.invokevirtual 44, 3) := by decide +kernel
theorem dL_law_453 : decode cL_law 453 = .ok (.aload_n 2, 1) := by decide +kernel
theorem dL_law_454 : decode cL_law 454 = .ok (.aload_n 0, 1) := by decide +kernel
theorem dL_law_455 : decode cL_law 455 = .ok (.iload 4, 2) := by decide +kernel
theorem dL_law_457 : decode cL_law 457 = .ok (.iconst 1, 1) := by decide +kernel
theorem dL_law_458 : decode cL_law 458 = .ok (.iadd, 1) := by decide +kernel
theorem dL_law_459 : decode cL_law 459 = .ok (.iaload, 1) := by decide +kernel
theorem dL_law_460 : decode cL_law 460 = .ok (.invokevirtual 48, 3) := by decide +kernel
theorem dL_law_463 : decode cL_law 463 = .ok (.if_icmp .eq 841, 3) := by decide +kernel
theorem dL_law_466 : decode cL_law 466 = .ok (.iconst 0, 1) := by decide +kernel
theorem dL_law_467 : decode cL_law 467 = .ok (.ireturn, 1) := by decide +kernel
theorem dL_law_468 : decode cL_law 468 = .ok (.aload_n 1, 1) := by decide +kernel
theorem dL_law_469 : decode cL_law 469 = .ok (.aload_n 0, 1) := by decide +kernel
theorem dL_law_470 : decode cL_law 470 = .ok (.iload 4, 2) := by decide +kernel
theorem dL_law_472 : decode cL_law 472 = .ok (.iconst 1, 1) := by decide +kernel
theorem dL_law_473 : decode cL_law 473 = .ok (.iadd, 1) := by decide +kernel
theorem dL_law_474 : decode cL_law 474 = .ok (.iaload, 1) := by decide +kernel
theorem dL_law_475 : decode cL_law 475 = .ok (.invokevirtual 49, 3) := by decide +kernel
theorem dL_law_478 : decode cL_law 478 = .ok (.aload_n 2, 1) := by decide +kernel
theorem dL_law_479 : decode cL_law 479 = .ok (.aload_n 0, 1) := by decide +kernel
theorem dL_law_480 : decode cL_law 480 = .ok (.iload 4, 2) := by decide +kernel
theorem dL_law_482 : decode cL_law 482 = .ok (.iconst 1, 1) := by decide +kernel
theorem dL_law_483 : decode cL_law 483 = .ok (.iadd, 1) := by decide +kernel
theorem dL_law_484 : decode cL_law 484 = .ok (.iaload, 1) := by decide +kernel
theorem dL_law_485 : decode cL_law 485 = .ok (.invokevirtual 52, 3) := by decide +kernel
theorem dL_law_488 : decode cL_law 488 = .ok (.if_icmp .eq 816, 3) := by decide +kernel
theorem dL_law_491 : decode cL_law 491 = .ok (.iconst 0, 1) := by decide +kernel
theorem dL_law_492 : decode cL_law 492 = .ok (.ireturn, 1) := by decide +kernel
theorem dL_law_493 : decode cL_law 493 = .ok (.aload_n 1, 1) := by decide +kernel
theorem dL_law_494 : decode cL_law 494 = .ok (.aload_n 0, 1) := by decide +kernel
theorem dL_law_495 : decode cL_law 495 = .ok (.iload 4, 2) := by decide +kernel
theorem dL_law_497 : decode cL_law 497 = .ok (.iconst 1, 1) := by decide +kernel
theorem dL_law_498 : decode cL_law 498 = .ok (.iadd, 1) := by decide +kernel
theorem dL_law_499 : decode cL_law 499 = .ok (.iaload, 1) := by decide +kernel
theorem dL_law_500 : decode cL_law 500 = .ok (.invokevirtual 53, 3) := by decide +kernel
theorem dL_law_503 : decode cL_law 503 = .ok (.aload_n 2, 1) := by decide +kernel
theorem dL_law_504 : decode cL_law 504 = .ok (.aload_n 0, 1) := by decide +kernel
theorem dL_law_505 : decode cL_law 505 = .ok (.iload 4, 2) := by decide +kernel
theorem dL_law_507 : decode cL_law 507 = .ok (.iconst 1, 1) := by decide +kernel
theorem dL_law_508 : decode cL_law 508 = .ok (.iadd, 1) := by decide +kernel
theorem dL_law_509 : decode cL_law 509 = .ok (.iaload, 1) := by decide +kernel
theorem dL_law_510 : decode cL_law 510 = .ok (.invokevirtual 57, 3) := by decide +kernel
theorem dL_law_513 : decode cL_law 513 = .ok (.if_icmp .eq 791, 3) := by decide +kernel
theorem dL_law_516 : decode cL_law 516 = .ok (.iconst 0, 1) := by decide +kernel
theorem dL_law_517 : decode cL_law 517 = .ok (.ireturn, 1) := by decide +kernel
theorem dL_law_518 : decode cL_law 518 = .ok (.aload_n 1, 1) := by decide +kernel
theorem dL_law_519 : decode cL_law 519 = .ok (.aload_n 0, 1) := by decide +kernel
theorem dL_law_520 : decode cL_law 520 = .ok (.iload 4, 2) := by decide +kernel
theorem dL_law_522 : decode cL_law 522 = .ok (.iconst 1, 1) := by decide +kernel
theorem dL_law_523 : decode cL_law 523 = .ok (.iadd, 1) := by decide +kernel
theorem dL_law_524 : decode cL_law 524 = .ok (.iaload, 1) := by decide +kernel
theorem dL_law_525 : decode cL_law 525 = .ok (.aload_n 0, 1) := by decide +kernel
theorem dL_law_526 : decode cL_law 526 = .ok (.iload 4, 2) := by decide +kernel
theorem dL_law_528 : decode cL_law 528 = .ok (.iconst 2, 1) := by decide +kernel
theorem dL_law_529 : decode cL_law 529 = .ok (.iadd, 1) := by decide +kernel
theorem dL_law_530 : decode cL_law 530 = .ok (.iaload, 1) := by decide +kernel
theorem dL_law_531 : decode cL_law 531 = .ok (.invokevirtual 58, 3) := by decide +kernel
theorem dL_law_534 : decode cL_law 534 = .ok (.aload_n 2, 1) := by decide +kernel
theorem dL_law_535 : decode cL_law 535 = .ok (.aload_n 0, 1) := by decide +kernel
theorem dL_law_536 : decode cL_law 536 = .ok (.iload 4, 2) := by decide +kernel
theorem dL_law_538 : decode cL_law 538 = .ok (.iconst 1, 1) := by decide +kernel
theorem dL_law_539 : decode cL_law 539 = .ok (.iadd, 1) := by decide +kernel
theorem dL_law_540 : decode cL_law 540 = .ok (.iaload, 1) := by decide +kernel
theorem dL_law_541 : decode cL_law 541 = .ok (.aload_n 0, 1) := by decide +kernel
theorem dL_law_542 : decode cL_law 542 = .ok (.iload 4, 2) := by decide +kernel
theorem dL_law_544 : decode cL_law 544 = .ok (.iconst 2, 1) := by decide +kernel
theorem dL_law_545 : decode cL_law 545 = .ok (.iadd, 1) := by decide +kernel
theorem dL_law_546 : decode cL_law 546 = .ok (.iaload, 1) := by decide +kernel
theorem dL_law_547 : decode cL_law 547 = .ok (.invokevirtual 62, 3) := by decide +kernel
theorem dL_law_550 : decode cL_law 550 = .ok (.if_icmp .eq 754, 3) := by decide +kernel
theorem dL_law_553 : decode cL_law 553 = .ok (.iconst 0, 1) := by decide +kernel
theorem dL_law_554 : decode cL_law 554 = .ok (.ireturn, 1) := by decide +kernel
theorem dL_law_555 : decode cL_law 555 = .ok (.aload_n 1, 1) := by decide +kernel
theorem dL_law_556 : decode cL_law 556 = .ok (.invokevirtual 63, 3) := by decide +kernel
theorem dL_law_559 : decode cL_law 559 = .ok (.aload_n 2, 1) := by decide +kernel
theorem dL_law_560 : decode cL_law 560 = .ok (.invokevirtual 66, 3) := by decide +kernel
theorem dL_law_563 : decode cL_law 563 = .ok (.if_icmp .eq 741, 3) := by decide +kernel
theorem dL_law_566 : decode cL_law 566 = .ok (.iconst 0, 1) := by decide +kernel
theorem dL_law_567 : decode cL_law 567 = .ok (.ireturn, 1) := by decide +kernel
theorem dL_law_568 : decode cL_law 568 = .ok (.aload_n 1, 1) := by decide +kernel
theorem dL_law_569 : decode cL_law 569 = .ok (.invokevirtual 67, 3) := by decide +kernel
theorem dL_law_572 : decode cL_law 572 = .ok (.aload_n 2, 1) := by decide +kernel
theorem dL_law_573 : decode cL_law 573 = .ok (.invokevirtual 71, 3) := by decide +kernel
theorem dL_law_576 : decode cL_law 576 = .ok (.if_icmp .eq 728, 3) := by decide +kernel
theorem dL_law_579 : decode cL_law 579 = .ok (.iconst 0, 1) := by decide +kernel
theorem dL_law_580 : decode cL_law 580 = .ok (.ireturn, 1) := by decide +kernel
theorem dL_law_581 : decode cL_law 581 = .ok (.aload_n 1, 1) := by decide +kernel
theorem dL_law_582 : decode cL_law 582 = .ok (.aload_n 0, 1) := by decide +kernel
theorem dL_law_583 : decode cL_law 583 = .ok (.iload 4, 2) := by decide +kernel
theorem dL_law_585 : decode cL_law 585 = .ok (.iconst 1, 1) := by decide +kernel
theorem dL_law_586 : decode cL_law 586 = .ok (.iadd, 1) := by decide +kernel
theorem dL_law_587 : decode cL_law 587 = .ok (.iaload, 1) := by decide +kernel
theorem dL_law_588 : decode cL_law 588 = .ok (.invokevirtual 72, 3) := by decide +kernel
theorem dL_law_591 : decode cL_law 591 = .ok (.aload_n 2, 1) := by decide +kernel
theorem dL_law_592 : decode cL_law 592 = .ok (.aload_n 0, 1) := by decide +kernel
theorem dL_law_593 : decode cL_law 593 = .ok (.iload 4, 2) := by decide +kernel
theorem dL_law_595 : decode cL_law 595 = .ok (.iconst 1, 1) := by decide +kernel
theorem dL_law_596 : decode cL_law 596 = .ok (.iadd, 1) := by decide +kernel
theorem dL_law_597 : decode cL_law 597 = .ok (.iaload, 1) := by decide +kernel
theorem dL_law_598 : decode cL_law 598 = .ok (.invokevirtual 75, 3) := by decide +kernel
theorem dL_law_601 : decode cL_law 601 = .ok (.if_icmp .eq 703, 3) := by decide +kernel
theorem dL_law_604 : decode cL_law 604 = .ok (.iconst 0, 1) := by decide +kernel
theorem dL_law_605 : decode cL_law 605 = .ok (.ireturn, 1) := by decide +kernel
theorem dL_law_606 : decode cL_law 606 = .ok (.aload_n 1, 1) := by decide +kernel
theorem dL_law_607 : decode cL_law 607 = .ok (.aload_n 0, 1) := by decide +kernel
theorem dL_law_608 : decode cL_law 608 = .ok (.iload 4, 2) := by decide +kernel
theorem dL_law_610 : decode cL_law 610 = .ok (.iconst 1, 1) := by decide +kernel
theorem dL_law_611 : decode cL_law 611 = .ok (.iadd, 1) := by decide +kernel
theorem dL_law_612 : decode cL_law 612 = .ok (.iaload, 1) := by decide +kernel
theorem dL_law_613 : decode cL_law 613 = .ok (.invokevirtual 76, 3) := by decide +kernel
theorem dL_law_616 : decode cL_law 616 = .ok (.aload_n 2, 1) := by decide +kernel
theorem dL_law_617 : decode cL_law 617 = .ok (.aload_n 0, 1) := by decide +kernel
theorem dL_law_618 : decode cL_law 618 = .ok (.iload 4, 2) := by decide +kernel
theorem dL_law_620 : decode cL_law 620 = .ok (.iconst 1, 1) := by decide +kernel
theorem dL_law_621 : decode cL_law 621 = .ok (.iadd, 1) := by decide +kernel
theorem dL_law_622 : decode cL_law 622 = .ok (.iaload, 1) := by decide +kernel
theorem dL_law_623 : decode cL_law 623 = .ok (.invokevirtual 79, 3) := by decide +kernel
theorem dL_law_626 : decode cL_law 626 = .ok (.if_icmp .eq 678, 3) := by decide +kernel
theorem dL_law_629 : decode cL_law 629 = .ok (.iconst 0, 1) := by decide +kernel
theorem dL_law_630 : decode cL_law 630 = .ok (.ireturn, 1) := by decide +kernel
theorem dL_law_631 : decode cL_law 631 = .ok (.aload_n 1, 1) := by decide +kernel
theorem dL_law_632 : decode cL_law 632 = .ok (.aload_n 0, 1) := by decide +kernel
theorem dL_law_633 : decode cL_law 633 = .ok (.iload 4, 2) := by decide +kernel
theorem dL_law_635 : decode cL_law 635 = .ok (.iconst 1, 1) := by decide +kernel
theorem dL_law_636 : decode cL_law 636 = .ok (.iadd, 1) := by decide +kernel
theorem dL_law_637 : decode cL_law 637 = .ok (.iaload, 1) := by decide +kernel
theorem dL_law_638 : decode cL_law 638 = .ok (.invokevirtual 80, 3) := by decide +kernel
theorem dL_law_641 : decode cL_law 641 = .ok (.aload_n 2, 1) := by decide +kernel
theorem dL_law_642 : decode cL_law 642 = .ok (.aload_n 0, 1) := by decide +kernel
theorem dL_law_643 : decode cL_law 643 = .ok (.iload 4, 2) := by decide +kernel
theorem dL_law_645 : decode cL_law 645 = .ok (.iconst 1, 1) := by decide +kernel
theorem dL_law_646 : decode cL_law 646 = .ok (.iadd, 1) := by decide +kernel
theorem dL_law_647 : decode cL_law 647 = .ok (.iaload, 1) := by decide +kernel
theorem dL_law_648 : decode cL_law 648 = .ok (.invokevirtual 83, 3) := by decide +kernel
theorem dL_law_651 : decode cL_law 651 = .ok (.if_icmp .eq 653, 3) := by decide +kernel
theorem dL_law_654 : decode cL_law 654 = .ok (.iconst 0, 1) := by decide +kernel
theorem dL_law_655 : decode cL_law 655 = .ok (.ireturn, 1) := by decide +kernel
theorem dL_law_656 : decode cL_law 656 = .ok (.aload_n 1, 1) := by decide +kernel
theorem dL_law_657 : decode cL_law 657 = .ok (.invokevirtual 84, 3) := by decide +kernel
theorem dL_law_660 : decode cL_law 660 = .ok (.aload_n 2, 1) := by decide +kernel
theorem dL_law_661 : decode cL_law 661 = .ok (.invokevirtual 87, 3) := by decide +kernel
theorem dL_law_664 : decode cL_law 664 = .ok (.if_icmp .eq 640, 3) := by decide +kernel
theorem dL_law_667 : decode cL_law 667 = .ok (.iconst 0, 1) := by decide +kernel
theorem dL_law_668 : decode cL_law 668 = .ok (.ireturn, 1) := by decide +kernel
theorem dL_law_669 : decode cL_law 669 = .ok (.aload_n 1, 1) := by decide +kernel
theorem dL_law_670 : decode cL_law 670 = .ok (.aload_n 0, 1) := by decide +kernel
theorem dL_law_671 : decode cL_law 671 = .ok (.iload 4, 2) := by decide +kernel
theorem dL_law_673 : decode cL_law 673 = .ok (.iconst 1, 1) := by decide +kernel
theorem dL_law_674 : decode cL_law 674 = .ok (.iadd, 1) := by decide +kernel
theorem dL_law_675 : decode cL_law 675 = .ok (.iaload, 1) := by decide +kernel
theorem dL_law_676 : decode cL_law 676 = .ok (.aload_n 0, 1) := by decide +kernel
theorem dL_law_677 : decode cL_law 677 = .ok (.iload 4, 2) := by decide +kernel
theorem dL_law_679 : decode cL_law 679 = .ok (.iconst 2, 1) := by decide +kernel
theorem dL_law_680 : decode cL_law 680 = .ok (.iadd, 1) := by decide +kernel
theorem dL_law_681 : decode cL_law 681 = .ok (.iaload, 1) := by decide +kernel
theorem dL_law_682 : decode cL_law 682 = .ok (.invokevirtual 88, 3) := by decide +kernel
theorem dL_law_685 : decode cL_law 685 = .ok (.aload_n 2, 1) := by decide +kernel
theorem dL_law_686 : decode cL_law 686 = .ok (.aload_n 0, 1) := by decide +kernel
theorem dL_law_687 : decode cL_law 687 = .ok (.iload 4, 2) := by decide +kernel
theorem dL_law_689 : decode cL_law 689 = .ok (.iconst 1, 1) := by decide +kernel
theorem dL_law_690 : decode cL_law 690 = .ok (.iadd, 1) := by decide +kernel
theorem dL_law_691 : decode cL_law 691 = .ok (.iaload, 1) := by decide +kernel
theorem dL_law_692 : decode cL_law 692 = .ok (.aload_n 0, 1) := by decide +kernel
theorem dL_law_693 : decode cL_law 693 = .ok (.iload 4, 2) := by decide +kernel
theorem dL_law_695 : decode cL_law 695 = .ok (.iconst 2, 1) := by decide +kernel
theorem dL_law_696 : decode cL_law 696 = .ok (.iadd, 1) := by decide +kernel
theorem dL_law_697 : decode cL_law 697 = .ok (.iaload, 1) := by decide +kernel
theorem dL_law_698 : decode cL_law 698 = .ok (.invokevirtual 91, 3) := by decide +kernel
theorem dL_law_701 : decode cL_law 701 = .ok (.if_icmp .eq 603, 3) := by decide +kernel
theorem dL_law_704 : decode cL_law 704 = .ok (.iconst 0, 1) := by decide +kernel
theorem dL_law_705 : decode cL_law 705 = .ok (.ireturn, 1) := by decide +kernel
theorem dL_law_706 : decode cL_law 706 = .ok (.aload_n 1, 1) := by decide +kernel
theorem dL_law_707 : decode cL_law 707 = .ok (.aload_n 0, 1) := by decide +kernel
theorem dL_law_708 : decode cL_law 708 = .ok (.iload 4, 2) := by decide +kernel
theorem dL_law_710 : decode cL_law 710 = .ok (.iconst 1, 1) := by decide +kernel
theorem dL_law_711 : decode cL_law 711 = .ok (.iadd, 1) := by decide +kernel
theorem dL_law_712 : decode cL_law 712 = .ok (.iaload, 1) := by decide +kernel
theorem dL_law_713 : decode cL_law 713 = .ok (.invokevirtual 92, 3) := by decide +kernel
theorem dL_law_716 : decode cL_law 716 = .ok (.aload_n 2, 1) := by decide +kernel
theorem dL_law_717 : decode cL_law 717 = .ok (.aload_n 0, 1) := by decide +kernel
theorem dL_law_718 : decode cL_law 718 = .ok (.iload 4, 2) := by decide +kernel
theorem dL_law_720 : decode cL_law 720 = .ok (.iconst 1, 1) := by decide +kernel
theorem dL_law_721 : decode cL_law 721 = .ok (.iadd, 1) := by decide +kernel
theorem dL_law_722 : decode cL_law 722 = .ok (.iaload, 1) := by decide +kernel
theorem dL_law_723 : decode cL_law 723 = .ok (.invokevirtual 95, 3) := by decide +kernel
theorem dL_law_726 : decode cL_law 726 = .ok (.if_icmp .eq 578, 3) := by decide +kernel
theorem dL_law_729 : decode cL_law 729 = .ok (.iconst 0, 1) := by decide +kernel
theorem dL_law_730 : decode cL_law 730 = .ok (.ireturn, 1) := by decide +kernel
theorem dL_law_731 : decode cL_law 731 = .ok (.aload_n 1, 1) := by decide +kernel
theorem dL_law_732 : decode cL_law 732 = .ok (.aload_n 0, 1) := by decide +kernel
theorem dL_law_733 : decode cL_law 733 = .ok (.iload 4, 2) := by decide +kernel
theorem dL_law_735 : decode cL_law 735 = .ok (.iconst 1, 1) := by decide +kernel
theorem dL_law_736 : decode cL_law 736 = .ok (.iadd, 1) := by decide +kernel
theorem dL_law_737 : decode cL_law 737 = .ok (.iaload, 1) := by decide +kernel
theorem dL_law_738 : decode cL_law 738 = .ok (.invokevirtual 96, 3) := by decide +kernel
theorem dL_law_741 : decode cL_law 741 = .ok (.aload_n 2, 1) := by decide +kernel
theorem dL_law_742 : decode cL_law 742 = .ok (.aload_n 0, 1) := by decide +kernel
theorem dL_law_743 : decode cL_law 743 = .ok (.iload 4, 2) := by decide +kernel
theorem dL_law_745 : decode cL_law 745 = .ok (.iconst 1, 1) := by decide +kernel
theorem dL_law_746 : decode cL_law 746 = .ok (.iadd, 1) := by decide +kernel
theorem dL_law_747 : decode cL_law 747 = .ok (.iaload, 1) := by decide +kernel
theorem dL_law_748 : decode cL_law 748 = .ok (.invokevirtual 99, 3) := by decide +kernel
theorem dL_law_751 : decode cL_law 751 = .ok (.if_icmp .eq 553, 3) := by decide +kernel
theorem dL_law_754 : decode cL_law 754 = .ok (.iconst 0, 1) := by decide +kernel
theorem dL_law_755 : decode cL_law 755 = .ok (.ireturn, 1) := by decide +kernel
theorem dL_law_756 : decode cL_law 756 = .ok (.aload_n 1, 1) := by decide +kernel
theorem dL_law_757 : decode cL_law 757 = .ok (.aload_n 0, 1) := by decide +kernel
theorem dL_law_758 : decode cL_law 758 = .ok (.iload 4, 2) := by decide +kernel
theorem dL_law_760 : decode cL_law 760 = .ok (.iconst 1, 1) := by decide +kernel
theorem dL_law_761 : decode cL_law 761 = .ok (.iadd, 1) := by decide +kernel
theorem dL_law_762 : decode cL_law 762 = .ok (.iaload, 1) := by decide +kernel
theorem dL_law_763 : decode cL_law 763 = .ok (.invokevirtual 100, 3) := by decide +kernel
theorem dL_law_766 : decode cL_law 766 = .ok (.aload_n 2, 1) := by decide +kernel
theorem dL_law_767 : decode cL_law 767 = .ok (.aload_n 0, 1) := by decide +kernel
theorem dL_law_768 : decode cL_law 768 = .ok (.iload 4, 2) := by decide +kernel
theorem dL_law_770 : decode cL_law 770 = .ok (.iconst 1, 1) := by decide +kernel
theorem dL_law_771 : decode cL_law 771 = .ok (.iadd, 1) := by decide +kernel
theorem dL_law_772 : decode cL_law 772 = .ok (.iaload, 1) := by decide +kernel
theorem dL_law_773 : decode cL_law 773 = .ok (.invokevirtual 103, 3) := by decide +kernel
theorem dL_law_776 : decode cL_law 776 = .ok (.if_icmp .eq 528, 3) := by decide +kernel
theorem dL_law_779 : decode cL_law 779 = .ok (.iconst 0, 1) := by decide +kernel
theorem dL_law_780 : decode cL_law 780 = .ok (.ireturn, 1) := by decide +kernel
theorem dL_law_781 : decode cL_law 781 = .ok (.aload_n 1, 1) := by decide +kernel
theorem dL_law_782 : decode cL_law 782 = .ok (.aload_n 0, 1) := by decide +kernel
theorem dL_law_783 : decode cL_law 783 = .ok (.iload 4, 2) := by decide +kernel
theorem dL_law_785 : decode cL_law 785 = .ok (.iconst 1, 1) := by decide +kernel
theorem dL_law_786 : decode cL_law 786 = .ok (.iadd, 1) := by decide +kernel
theorem dL_law_787 : decode cL_law 787 = .ok (.iaload, 1) := by decide +kernel
theorem dL_law_788 : decode cL_law 788 = .ok (.invokevirtual 104, 3) := by decide +kernel
theorem dL_law_791 : decode cL_law 791 = .ok (.aload_n 2, 1) := by decide +kernel
theorem dL_law_792 : decode cL_law 792 = .ok (.aload_n 0, 1) := by decide +kernel
theorem dL_law_793 : decode cL_law 793 = .ok (.iload 4, 2) := by decide +kernel
theorem dL_law_795 : decode cL_law 795 = .ok (.iconst 1, 1) := by decide +kernel
theorem dL_law_796 : decode cL_law 796 = .ok (.iadd, 1) := by decide +kernel
theorem dL_law_797 : decode cL_law 797 = .ok (.iaload, 1) := by decide +kernel
theorem dL_law_798 : decode cL_law 798 = .ok (.invokevirtual 107, 3) := by decide +kernel
theorem dL_law_801 : decode cL_law 801 = .ok (.if_icmp .eq 503, 3) := by decide +kernel
theorem dL_law_804 : decode cL_law 804 = .ok (.iconst 0, 1) := by decide +kernel
theorem dL_law_805 : decode cL_law 805 = .ok (.ireturn, 1) := by decide +kernel
theorem dL_law_806 : decode cL_law 806 = .ok (.aload_n 1, 1) := by decide +kernel
theorem dL_law_807 : decode cL_law 807 = .ok (.aload_n 0, 1) := by decide +kernel
theorem dL_law_808 : decode cL_law 808 = .ok (.iload 4, 2) := by decide +kernel
theorem dL_law_810 : decode cL_law 810 = .ok (.iconst 1, 1) := by decide +kernel
theorem dL_law_811 : decode cL_law 811 = .ok (.iadd, 1) := by decide +kernel
theorem dL_law_812 : decode cL_law 812 = .ok (.iaload, 1) := by decide +kernel
theorem dL_law_813 : decode cL_law 813 = .ok (.invokevirtual 108, 3) := by decide +kernel
theorem dL_law_816 : decode cL_law 816 = .ok (.aload_n 2, 1) := by decide +kernel
theorem dL_law_817 : decode cL_law 817 = .ok (.aload_n 0, 1) := by decide +kernel
theorem dL_law_818 : decode cL_law 818 = .ok (.iload 4, 2) := by decide +kernel
theorem dL_law_820 : decode cL_law 820 = .ok (.iconst 1, 1) := by decide +kernel
theorem dL_law_821 : decode cL_law 821 = .ok (.iadd, 1) := by decide +kernel
theorem dL_law_822 : decode cL_law 822 = .ok (.iaload, 1) := by decide +kernel
theorem dL_law_823 : decode cL_law 823 = .ok (.invokevirtual 111, 3) := by decide +kernel
theorem dL_law_826 : decode cL_law 826 = .ok (.if_icmp .eq 478, 3) := by decide +kernel
theorem dL_law_829 : decode cL_law 829 = .ok (.iconst 0, 1) := by decide +kernel
theorem dL_law_830 : decode cL_law 830 = .ok (.ireturn, 1) := by decide +kernel
theorem dL_law_831 : decode cL_law 831 = .ok (.aload_n 1, 1) := by decide +kernel
theorem dL_law_832 : decode cL_law 832 = .ok (.aload_n 0, 1) := by decide +kernel
theorem dL_law_833 : decode cL_law 833 = .ok (.iload 4, 2) := by decide +kernel
theorem dL_law_835 : decode cL_law 835 = .ok (.iconst 1, 1) := by decide +kernel
theorem dL_law_836 : decode cL_law 836 = .ok (.iadd, 1) := by decide +kernel
theorem dL_law_837 : decode cL_law 837 = .ok (.iaload, 1) := by decide +kernel
theorem dL_law_838 : decode cL_law 838 = .ok (.aload_n 0, 1) := by decide +kernel
theorem dL_law_839 : decode cL_law 839 = .ok (.iload 4, 2) := by decide +kernel
theorem dL_law_841 : decode cL_law 841 = .ok (.iconst 2, 1) := by decide +kernel
theorem dL_law_842 : decode cL_law 842 = .ok (.iadd, 1) := by decide +kernel
theorem dL_law_843 : decode cL_law 843 = .ok (.iaload, 1) := by decide +kernel
theorem dL_law_844 : decode cL_law 844 = .ok (.invokevirtual 112, 3) := by decide +kernel
theorem dL_law_847 : decode cL_law 847 = .ok (.aload_n 2, 1) := by decide +kernel
theorem dL_law_848 : decode cL_law 848 = .ok (.aload_n 0, 1) := by decide +kernel
theorem dL_law_849 : decode cL_law 849 = .ok (.iload 4, 2) := by decide +kernel
theorem dL_law_851 : decode cL_law 851 = .ok (.iconst 1, 1) := by decide +kernel
theorem dL_law_852 : decode cL_law 852 = .ok (.iadd, 1) := by decide +kernel
theorem dL_law_853 : decode cL_law 853 = .ok (.iaload, 1) := by decide +kernel
theorem dL_law_854 : decode cL_law 854 = .ok (.aload_n 0, 1) := by decide +kernel
theorem dL_law_855 : decode cL_law 855 = .ok (.iload 4, 2) := by decide +kernel
theorem dL_law_857 : decode cL_law 857 = .ok (.iconst 2, 1) := by decide +kernel
theorem dL_law_858 : decode cL_law 858 = .ok (.iadd, 1) := by decide +kernel
theorem dL_law_859 : decode cL_law 859 = .ok (.iaload, 1) := by decide +kernel
theorem dL_law_860 : decode cL_law 860 = .ok (.invokevirtual 115, 3) := by decide +kernel
theorem dL_law_863 : decode cL_law 863 = .ok (.if_icmp .eq 441, 3) := by decide +kernel
theorem dL_law_866 : decode cL_law 866 = .ok (.iconst 0, 1) := by decide +kernel
theorem dL_law_867 : decode cL_law 867 = .ok (.ireturn, 1) := by decide +kernel
theorem dL_law_868 : decode cL_law 868 = .ok (.aload_n 1, 1) := by decide +kernel
theorem dL_law_869 : decode cL_law 869 = .ok (.aload_n 0, 1) := by decide +kernel
theorem dL_law_870 : decode cL_law 870 = .ok (.iload 4, 2) := by decide +kernel
theorem dL_law_872 : decode cL_law 872 = .ok (.iconst 1, 1) := by decide +kernel
theorem dL_law_873 : decode cL_law 873 = .ok (.iadd, 1) := by decide +kernel
theorem dL_law_874 : decode cL_law 874 = .ok (.iaload, 1) := by decide +kernel
theorem dL_law_875 : decode cL_law 875 = .ok (.invokevirtual 116, 3) := by decide +kernel
theorem dL_law_878 : decode cL_law 878 = .ok (.aload_n 2, 1) := by decide +kernel
theorem dL_law_879 : decode cL_law 879 = .ok (.aload_n 0, 1) := by decide +kernel
theorem dL_law_880 : decode cL_law 880 = .ok (.iload 4, 2) := by decide +kernel
theorem dL_law_882 : decode cL_law 882 = .ok (.iconst 1, 1) := by decide +kernel
theorem dL_law_883 : decode cL_law 883 = .ok (.iadd, 1) := by decide +kernel
theorem dL_law_884 : decode cL_law 884 = .ok (.iaload, 1) := by decide +kernel
theorem dL_law_885 : decode cL_law 885 = .ok (.invokevirtual 119, 3) := by decide +kernel
theorem dL_law_888 : decode cL_law 888 = .ok (.if_icmp .eq 416, 3) := by decide +kernel
theorem dL_law_891 : decode cL_law 891 = .ok (.iconst 0, 1) := by decide +kernel
theorem dL_law_892 : decode cL_law 892 = .ok (.ireturn, 1) := by decide +kernel
theorem dL_law_893 : decode cL_law 893 = .ok (.aload_n 1, 1) := by decide +kernel
theorem dL_law_894 : decode cL_law 894 = .ok (.aload_n 0, 1) := by decide +kernel
theorem dL_law_895 : decode cL_law 895 = .ok (.iload 4, 2) := by decide +kernel
theorem dL_law_897 : decode cL_law 897 = .ok (.iconst 1, 1) := by decide +kernel
theorem dL_law_898 : decode cL_law 898 = .ok (.iadd, 1) := by decide +kernel
theorem dL_law_899 : decode cL_law 899 = .ok (.iaload, 1) := by decide +kernel
theorem dL_law_900 : decode cL_law 900 = .ok (.invokevirtual 120, 3) := by decide +kernel
theorem dL_law_903 : decode cL_law 903 = .ok (.aload_n 2, 1) := by decide +kernel
theorem dL_law_904 : decode cL_law 904 = .ok (.aload_n 0, 1) := by decide +kernel
theorem dL_law_905 : decode cL_law 905 = .ok (.iload 4, 2) := by decide +kernel
theorem dL_law_907 : decode cL_law 907 = .ok (.iconst 1, 1) := by decide +kernel
theorem dL_law_908 : decode cL_law 908 = .ok (.iadd, 1) := by decide +kernel
theorem dL_law_909 : decode cL_law 909 = .ok (.iaload, 1) := by decide +kernel
theorem dL_law_910 : decode cL_law 910 = .ok (.invokevirtual 123, 3) := by decide +kernel
theorem dL_law_913 : decode cL_law 913 = .ok (.if_icmp .eq 391, 3) := by decide +kernel
theorem dL_law_916 : decode cL_law 916 = .ok (.iconst 0, 1) := by decide +kernel
theorem dL_law_917 : decode cL_law 917 = .ok (.ireturn, 1) := by decide +kernel
theorem dL_law_918 : decode cL_law 918 = .ok (.aload_n 1, 1) := by decide +kernel
theorem dL_law_919 : decode cL_law 919 = .ok (.invokevirtual 124, 3) := by decide +kernel
theorem dL_law_922 : decode cL_law 922 = .ok (.aload_n 2, 1) := by decide +kernel
theorem dL_law_923 : decode cL_law 923 = .ok (.invokevirtual 127, 3) := by decide +kernel
theorem dL_law_926 : decode cL_law 926 = .ok (.if_icmp .eq 378, 3) := by decide +kernel
theorem dL_law_929 : decode cL_law 929 = .ok (.iconst 0, 1) := by decide +kernel
theorem dL_law_930 : decode cL_law 930 = .ok (.ireturn, 1) := by decide +kernel
theorem dL_law_931 : decode cL_law 931 = .ok (.aload_n 1, 1) := by decide +kernel
theorem dL_law_932 : decode cL_law 932 = .ok (.invokevirtual 128, 3) := by decide +kernel
theorem dL_law_935 : decode cL_law 935 = .ok (.aload_n 2, 1) := by decide +kernel
theorem dL_law_936 : decode cL_law 936 = .ok (.invokevirtual 131, 3) := by decide +kernel
theorem dL_law_939 : decode cL_law 939 = .ok (.if_icmp .eq 365, 3) := by decide +kernel
theorem dL_law_942 : decode cL_law 942 = .ok (.iconst 0, 1) := by decide +kernel
theorem dL_law_943 : decode cL_law 943 = .ok (.ireturn, 1) := by decide +kernel
theorem dL_law_944 : decode cL_law 944 = .ok (.aload_n 1, 1) := by decide +kernel
theorem dL_law_945 : decode cL_law 945 = .ok (.aload_n 0, 1) := by decide +kernel
theorem dL_law_946 : decode cL_law 946 = .ok (.iload 4, 2) := by decide +kernel
theorem dL_law_948 : decode cL_law 948 = .ok (.iconst 1, 1) := by decide +kernel
theorem dL_law_949 : decode cL_law 949 = .ok (.iadd, 1) := by decide +kernel
theorem dL_law_950 : decode cL_law 950 = .ok (.iaload, 1) := by decide +kernel
theorem dL_law_951 : decode cL_law 951 = .ok (.aload_n 0, 1) := by decide +kernel
theorem dL_law_952 : decode cL_law 952 = .ok (.iload 4, 2) := by decide +kernel
theorem dL_law_954 : decode cL_law 954 = .ok (.iconst 2, 1) := by decide +kernel
theorem dL_law_955 : decode cL_law 955 = .ok (.iadd, 1) := by decide +kernel
theorem dL_law_956 : decode cL_law 956 = .ok (.iaload, 1) := by decide +kernel
theorem dL_law_957 : decode cL_law 957 = .ok (.ifCond .eq 7, 3) := by decide +kernel
theorem dL_law_960 : decode cL_law 960 = .ok (.iconst 1, 1) := by decide +kernel
theorem dL_law_961 : decode cL_law 961 = .ok (.goto 4, 3) := by decide +kernel
theorem dL_law_964 : decode cL_law 964 = .ok (.iconst 0, 1) := by decide +kernel
theorem dL_law_965 : decode cL_law 965 = .ok (.invokevirtual 132, 3) := by decide +kernel
theorem dL_law_968 : decode cL_law 968 = .ok (.aload_n 2, 1) := by decide +kernel
theorem dL_law_969 : decode cL_law 969 = .ok (.aload_n 0, 1) := by decide +kernel
theorem dL_law_970 : decode cL_law 970 = .ok (.iload 4, 2) := by decide +kernel
theorem dL_law_972 : decode cL_law 972 = .ok (.iconst 1, 1) := by decide +kernel
theorem dL_law_973 : decode cL_law 973 = .ok (.iadd, 1) := by decide +kernel
theorem dL_law_974 : decode cL_law 974 = .ok (.iaload, 1) := by decide +kernel
theorem dL_law_975 : decode cL_law 975 = .ok (.aload_n 0, 1) := by decide +kernel
theorem dL_law_976 : decode cL_law 976 = .ok (.iload 4, 2) := by decide +kernel
theorem dL_law_978 : decode cL_law 978 = .ok (.iconst 2, 1) := by decide +kernel
theorem dL_law_979 : decode cL_law 979 = .ok (.iadd, 1) := by decide +kernel
theorem dL_law_980 : decode cL_law 980 = .ok (.iaload, 1) := by decide +kernel
theorem dL_law_981 : decode cL_law 981 = .ok (.ifCond .eq 7, 3) := by decide +kernel
theorem dL_law_984 : decode cL_law 984 = .ok (.iconst 1, 1) := by decide +kernel
theorem dL_law_985 : decode cL_law 985 = .ok (.goto 4, 3) := by decide +kernel
theorem dL_law_988 : decode cL_law 988 = .ok (.iconst 0, 1) := by decide +kernel
theorem dL_law_989 : decode cL_law 989 = .ok (.invokevirtual 136, 3) := by decide +kernel
theorem dL_law_992 : decode cL_law 992 = .ok (.if_icmp .eq 312, 3) := by decide +kernel
theorem dL_law_995 : decode cL_law 995 = .ok (.iconst 0, 1) := by decide +kernel
theorem dL_law_996 : decode cL_law 996 = .ok (.ireturn, 1) := by decide +kernel
theorem dL_law_997 : decode cL_law 997 = .ok (.aload_n 1, 1) := by decide +kernel
theorem dL_law_998 : decode cL_law 998 = .ok (.aload_n 0, 1) := by decide +kernel
theorem dL_law_999 : decode cL_law 999 = .ok (.iload 4, 2) := by decide +kernel
theorem dL_law_1001 : decode cL_law 1001 = .ok (.iconst 1, 1) := by decide +kernel
theorem dL_law_1002 : decode cL_law 1002 = .ok (.iadd, 1) := by decide +kernel
theorem dL_law_1003 : decode cL_law 1003 = .ok (.iaload, 1) := by decide +kernel
theorem dL_law_1004 : decode cL_law 1004 = .ok (.invokevirtual 137, 3) := by decide +kernel
theorem dL_law_1007 : decode cL_law 1007 = .ok (.aload_n 2, 1) := by decide +kernel
theorem dL_law_1008 : decode cL_law 1008 = .ok (.aload_n 0, 1) := by decide +kernel
theorem dL_law_1009 : decode cL_law 1009 = .ok (.iload 4, 2) := by decide +kernel
theorem dL_law_1011 : decode cL_law 1011 = .ok (.iconst 1, 1) := by decide +kernel
theorem dL_law_1012 : decode cL_law 1012 = .ok (.iadd, 1) := by decide +kernel
theorem dL_law_1013 : decode cL_law 1013 = .ok (.iaload, 1) := by decide +kernel
theorem dL_law_1014 : decode cL_law 1014 = .ok (.invokevirtual 140, 3) := by decide +kernel
theorem dL_law_1017 : decode cL_law 1017 = .ok (.if_icmp .eq 287, 3) := by decide +kernel
theorem dL_law_1020 : decode cL_law 1020 = .ok (.iconst 0, 1) := by decide +kernel
theorem dL_law_1021 : decode cL_law 1021 = .ok (.ireturn, 1) := by decide +kernel
theorem dL_law_1022 : decode cL_law 1022 = .ok (.aload_n 1, 1) := by decide +kernel
theorem dL_law_1023 : decode cL_law 1023 = .ok (.invokevirtual 141, 3) := by decide +kernel
theorem dL_law_1026 : decode cL_law 1026 = .ok (.aload_n 2, 1) := by decide +kernel
theorem dL_law_1027 : decode cL_law 1027 = .ok (.invokevirtual 144, 3) := by decide +kernel
theorem dL_law_1030 : decode cL_law 1030 = .ok (.if_icmp .eq 274, 3) := by decide +kernel
theorem dL_law_1033 : decode cL_law 1033 = .ok (.iconst 0, 1) := by decide +kernel
theorem dL_law_1034 : decode cL_law 1034 = .ok (.ireturn, 1) := by decide +kernel
theorem dL_law_1035 : decode cL_law 1035 = .ok (.aload_n 1, 1) := by decide +kernel
theorem dL_law_1036 : decode cL_law 1036 = .ok (.aload_n 0, 1) := by decide +kernel
theorem dL_law_1037 : decode cL_law 1037 = .ok (.iload 4, 2) := by decide +kernel
theorem dL_law_1039 : decode cL_law 1039 = .ok (.iconst 1, 1) := by decide +kernel
theorem dL_law_1040 : decode cL_law 1040 = .ok (.iadd, 1) := by decide +kernel
theorem dL_law_1041 : decode cL_law 1041 = .ok (.iaload, 1) := by decide +kernel
theorem dL_law_1042 : decode cL_law 1042 = .ok (.invokevirtual 145, 3) := by decide +kernel
theorem dL_law_1045 : decode cL_law 1045 = .ok (.aload_n 2, 1) := by decide +kernel
theorem dL_law_1046 : decode cL_law 1046 = .ok (.aload_n 0, 1) := by decide +kernel
theorem dL_law_1047 : decode cL_law 1047 = .ok (.iload 4, 2) := by decide +kernel
theorem dL_law_1049 : decode cL_law 1049 = .ok (.iconst 1, 1) := by decide +kernel
theorem dL_law_1050 : decode cL_law 1050 = .ok (.iadd, 1) := by decide +kernel
theorem dL_law_1051 : decode cL_law 1051 = .ok (.iaload, 1) := by decide +kernel
theorem dL_law_1052 : decode cL_law 1052 = .ok (.invokevirtual 148, 3) := by decide +kernel
theorem dL_law_1055 : decode cL_law 1055 = .ok (.if_icmp .eq 249, 3) := by decide +kernel
theorem dL_law_1058 : decode cL_law 1058 = .ok (.iconst 0, 1) := by decide +kernel
theorem dL_law_1059 : decode cL_law 1059 = .ok (.ireturn, 1) := by decide +kernel
theorem dL_law_1060 : decode cL_law 1060 = .ok (.aload_n 1, 1) := by decide +kernel
theorem dL_law_1061 : decode cL_law 1061 = .ok (.aload_n 0, 1) := by decide +kernel
theorem dL_law_1062 : decode cL_law 1062 = .ok (.iload 4, 2) := by decide +kernel
theorem dL_law_1064 : decode cL_law 1064 = .ok (.iconst 1, 1) := by decide +kernel
theorem dL_law_1065 : decode cL_law 1065 = .ok (.iadd, 1) := by decide +kernel
theorem dL_law_1066 : decode cL_law 1066 = .ok (.iaload, 1) := by decide +kernel
theorem dL_law_1067 : decode cL_law 1067 = .ok (.invokevirtual 149, 3) := by decide +kernel
theorem dL_law_1070 : decode cL_law 1070 = .ok (.aload_n 2, 1) := by decide +kernel
theorem dL_law_1071 : decode cL_law 1071 = .ok (.aload_n 0, 1) := by decide +kernel
theorem dL_law_1072 : decode cL_law 1072 = .ok (.iload 4, 2) := by decide +kernel
theorem dL_law_1074 : decode cL_law 1074 = .ok (.iconst 1, 1) := by decide +kernel
theorem dL_law_1075 : decode cL_law 1075 = .ok (.iadd, 1) := by decide +kernel
theorem dL_law_1076 : decode cL_law 1076 = .ok (.iaload, 1) := by decide +kernel
theorem dL_law_1077 : decode cL_law 1077 = .ok (.invokevirtual 152, 3) := by decide +kernel
theorem dL_law_1080 : decode cL_law 1080 = .ok (.if_icmp .eq 224, 3) := by decide +kernel
theorem dL_law_1083 : decode cL_law 1083 = .ok (.iconst 0, 1) := by decide +kernel
theorem dL_law_1084 : decode cL_law 1084 = .ok (.ireturn, 1) := by decide +kernel
theorem dL_law_1085 : decode cL_law 1085 = .ok (.aload_n 1, 1) := by decide +kernel
theorem dL_law_1086 : decode cL_law 1086 = .ok (.aload_n 0, 1) := by decide +kernel
theorem dL_law_1087 : decode cL_law 1087 = .ok (.iload 4, 2) := by decide +kernel
theorem dL_law_1089 : decode cL_law 1089 = .ok (.iconst 1, 1) := by decide +kernel
theorem dL_law_1090 : decode cL_law 1090 = .ok (.iadd, 1) := by decide +kernel
theorem dL_law_1091 : decode cL_law 1091 = .ok (.iaload, 1) := by decide +kernel
theorem dL_law_1092 : decode cL_law 1092 = .ok (.aload_n 0, 1) := by decide +kernel
theorem dL_law_1093 : decode cL_law 1093 = .ok (.iload 4, 2) := by decide +kernel
theorem dL_law_1095 : decode cL_law 1095 = .ok (.iconst 2, 1) := by decide +kernel
theorem dL_law_1096 : decode cL_law 1096 = .ok (.iadd, 1) := by decide +kernel
theorem dL_law_1097 : decode cL_law 1097 = .ok (.iaload, 1) := by decide +kernel
theorem dL_law_1098 : decode cL_law 1098 = .ok (.aload_n 0, 1) := by decide +kernel
theorem dL_law_1099 : decode cL_law 1099 = .ok (.iload 4, 2) := by decide +kernel
theorem dL_law_1101 : decode cL_law 1101 = .ok (.iconst 3, 1) := by decide +kernel
theorem dL_law_1102 : decode cL_law 1102 = .ok (.iadd, 1) := by decide +kernel
theorem dL_law_1103 : decode cL_law 1103 = .ok (.iaload, 1) := by decide +kernel
theorem dL_law_1104 : decode cL_law 1104 = .ok (.aload_n 0, 1) := by decide +kernel
theorem dL_law_1105 : decode cL_law 1105 = .ok (.iload 4, 2) := by decide +kernel
theorem dL_law_1107 : decode cL_law 1107 = .ok (.iconst 4, 1) := by decide +kernel
theorem dL_law_1108 : decode cL_law 1108 = .ok (.iadd, 1) := by decide +kernel
theorem dL_law_1109 : decode cL_law 1109 = .ok (.iaload, 1) := by decide +kernel
theorem dL_law_1110 : decode cL_law 1110 = .ok (.aload_n 3, 1) := by decide +kernel
theorem dL_law_1111 : decode cL_law 1111 = .ok (.invokestatic 153, 3) := by decide +kernel
theorem dL_law_1114 : decode cL_law 1114 = .ok (.istore 5, 2) := by decide +kernel
theorem dL_law_1116 : decode cL_law 1116 = .ok (.aload_n 2, 1) := by decide +kernel
theorem dL_law_1117 : decode cL_law 1117 = .ok (.aload_n 0, 1) := by decide +kernel
theorem dL_law_1118 : decode cL_law 1118 = .ok (.iload 4, 2) := by decide +kernel
theorem dL_law_1120 : decode cL_law 1120 = .ok (.iconst 1, 1) := by decide +kernel
theorem dL_law_1121 : decode cL_law 1121 = .ok (.iadd, 1) := by decide +kernel
theorem dL_law_1122 : decode cL_law 1122 = .ok (.iaload, 1) := by decide +kernel
theorem dL_law_1123 : decode cL_law 1123 = .ok (.aload_n 0, 1) := by decide +kernel
theorem dL_law_1124 : decode cL_law 1124 = .ok (.iload 4, 2) := by decide +kernel
theorem dL_law_1126 : decode cL_law 1126 = .ok (.iconst 2, 1) := by decide +kernel
theorem dL_law_1127 : decode cL_law 1127 = .ok (.iadd, 1) := by decide +kernel
theorem dL_law_1128 : decode cL_law 1128 = .ok (.iaload, 1) := by decide +kernel
theorem dL_law_1129 : decode cL_law 1129 = .ok (.aload_n 0, 1) := by decide +kernel
theorem dL_law_1130 : decode cL_law 1130 = .ok (.iload 4, 2) := by decide +kernel
theorem dL_law_1132 : decode cL_law 1132 = .ok (.iconst 3, 1) := by decide +kernel
theorem dL_law_1133 : decode cL_law 1133 = .ok (.iadd, 1) := by decide +kernel
theorem dL_law_1134 : decode cL_law 1134 = .ok (.iaload, 1) := by decide +kernel
theorem dL_law_1135 : decode cL_law 1135 = .ok (.aload_n 0, 1) := by decide +kernel
theorem dL_law_1136 : decode cL_law 1136 = .ok (.iload 4, 2) := by decide +kernel
theorem dL_law_1138 : decode cL_law 1138 = .ok (.iconst 4, 1) := by decide +kernel
theorem dL_law_1139 : decode cL_law 1139 = .ok (.iadd, 1) := by decide +kernel
theorem dL_law_1140 : decode cL_law 1140 = .ok (.iaload, 1) := by decide +kernel
theorem dL_law_1141 : decode cL_law 1141 = .ok (.invokevirtual 158, 3) := by decide +kernel
theorem dL_law_1144 : decode cL_law 1144 = .ok (.istore 6, 2) := by decide +kernel
theorem dL_law_1146 : decode cL_law 1146 = .ok (.aload_n 2, 1) := by decide +kernel
theorem dL_law_1147 : decode cL_law 1147 = .ok (.invokevirtual 159, 3) := by decide +kernel
theorem dL_law_1150 : decode cL_law 1150 = .ok (.iload 5, 2) := by decide +kernel
theorem dL_law_1152 : decode cL_law 1152 = .ok (.if_icmp .eq 5, 3) := by decide +kernel
theorem dL_law_1155 : decode cL_law 1155 = .ok (.iconst 0, 1) := by decide +kernel
theorem dL_law_1156 : decode cL_law 1156 = .ok (.ireturn, 1) := by decide +kernel
theorem dL_law_1157 : decode cL_law 1157 = .ok (.iload 5, 2) := by decide +kernel
theorem dL_law_1159 : decode cL_law 1159 = .ok (.ifCond .ne 15, 3) := by decide +kernel
theorem dL_law_1162 : decode cL_law 1162 = .ok (.aload_n 3, 1) := by decide +kernel
theorem dL_law_1163 : decode cL_law 1163 = .ok (.iconst 0, 1) := by decide +kernel
theorem dL_law_1164 : decode cL_law 1164 = .ok (.laload, 1) := by decide +kernel
theorem dL_law_1165 : decode cL_law 1165 = .ok (.iload 6, 2) := by decide +kernel
theorem dL_law_1167 : decode cL_law 1167 = .ok (.i2l, 1) := by decide +kernel
theorem dL_law_1168 : decode cL_law 1168 = .ok (.lcmp, 1) := by decide +kernel
theorem dL_law_1169 : decode cL_law 1169 = .ok (.ifCond .eq 5, 3) := by decide +kernel
theorem dL_law_1172 : decode cL_law 1172 = .ok (.iconst 0, 1) := by decide +kernel
theorem dL_law_1173 : decode cL_law 1173 = .ok (.ireturn, 1) := by decide +kernel
theorem dL_law_1174 : decode cL_law 1174 = .ok (.goto 130, 3) := by decide +kernel
theorem dL_law_1177 : decode cL_law 1177 = .ok (.aload_n 1, 1) := by decide +kernel
theorem dL_law_1178 : decode cL_law 1178 = .ok (.aload_n 0, 1) := by decide +kernel
theorem dL_law_1179 : decode cL_law 1179 = .ok (.iload 4, 2) := by decide +kernel
theorem dL_law_1181 : decode cL_law 1181 = .ok (.iconst 1, 1) := by decide +kernel
theorem dL_law_1182 : decode cL_law 1182 = .ok (.iadd, 1) := by decide +kernel
theorem dL_law_1183 : decode cL_law 1183 = .ok (.iaload, 1) := by decide +kernel
theorem dL_law_1184 : decode cL_law 1184 = .ok (.aload_n 0, 1) := by decide +kernel
theorem dL_law_1185 : decode cL_law 1185 = .ok (.iload 4, 2) := by decide +kernel
theorem dL_law_1187 : decode cL_law 1187 = .ok (.iconst 2, 1) := by decide +kernel
theorem dL_law_1188 : decode cL_law 1188 = .ok (.iadd, 1) := by decide +kernel
theorem dL_law_1189 : decode cL_law 1189 = .ok (.iaload, 1) := by decide +kernel
theorem dL_law_1190 : decode cL_law 1190 = .ok (.aload_n 0, 1) := by decide +kernel
theorem dL_law_1191 : decode cL_law 1191 = .ok (.iload 4, 2) := by decide +kernel
theorem dL_law_1193 : decode cL_law 1193 = .ok (.iconst 3, 1) := by decide +kernel
theorem dL_law_1194 : decode cL_law 1194 = .ok (.iadd, 1) := by decide +kernel
theorem dL_law_1195 : decode cL_law 1195 = .ok (.iaload, 1) := by decide +kernel
theorem dL_law_1196 : decode cL_law 1196 = .ok (.invokevirtual 162, 3) := by decide +kernel
theorem dL_law_1199 : decode cL_law 1199 = .ok (.aload_n 2, 1) := by decide +kernel
theorem dL_law_1200 : decode cL_law 1200 = .ok (.aload_n 0, 1) := by decide +kernel
theorem dL_law_1201 : decode cL_law 1201 = .ok (.iload 4, 2) := by decide +kernel
theorem dL_law_1203 : decode cL_law 1203 = .ok (.iconst 1, 1) := by decide +kernel
theorem dL_law_1204 : decode cL_law 1204 = .ok (.iadd, 1) := by decide +kernel
theorem dL_law_1205 : decode cL_law 1205 = .ok (.iaload, 1) := by decide +kernel
theorem dL_law_1206 : decode cL_law 1206 = .ok (.aload_n 0, 1) := by decide +kernel
theorem dL_law_1207 : decode cL_law 1207 = .ok (.iload 4, 2) := by decide +kernel
theorem dL_law_1209 : decode cL_law 1209 = .ok (.iconst 2, 1) := by decide +kernel
theorem dL_law_1210 : decode cL_law 1210 = .ok (.iadd, 1) := by decide +kernel
theorem dL_law_1211 : decode cL_law 1211 = .ok (.iaload, 1) := by decide +kernel
theorem dL_law_1212 : decode cL_law 1212 = .ok (.aload_n 0, 1) := by decide +kernel
theorem dL_law_1213 : decode cL_law 1213 = .ok (.iload 4, 2) := by decide +kernel
theorem dL_law_1215 : decode cL_law 1215 = .ok (.iconst 3, 1) := by decide +kernel
theorem dL_law_1216 : decode cL_law 1216 = .ok (.iadd, 1) := by decide +kernel
theorem dL_law_1217 : decode cL_law 1217 = .ok (.iaload, 1) := by decide +kernel
theorem dL_law_1218 : decode cL_law 1218 = .ok (.invokevirtual 166, 3) := by decide +kernel
theorem dL_law_1221 : decode cL_law 1221 = .ok (.if_icmp .eq 83, 3) := by decide +kernel
theorem dL_law_1224 : decode cL_law 1224 = .ok (.iconst 0, 1) := by decide +kernel
theorem dL_law_1225 : decode cL_law 1225 = .ok (.ireturn, 1) := by decide +kernel
theorem dL_law_1226 : decode cL_law 1226 = .ok (.aload_n 1, 1) := by decide +kernel
theorem dL_law_1227 : decode cL_law 1227 = .ok (.aload_n 0, 1) := by decide +kernel
theorem dL_law_1228 : decode cL_law 1228 = .ok (.iload 4, 2) := by decide +kernel
theorem dL_law_1230 : decode cL_law 1230 = .ok (.iconst 1, 1) := by decide +kernel
theorem dL_law_1231 : decode cL_law 1231 = .ok (.iadd, 1) := by decide +kernel
theorem dL_law_1232 : decode cL_law 1232 = .ok (.iaload, 1) := by decide +kernel
theorem dL_law_1233 : decode cL_law 1233 = .ok (.aload_n 0, 1) := by decide +kernel
theorem dL_law_1234 : decode cL_law 1234 = .ok (.iload 4, 2) := by decide +kernel
theorem dL_law_1236 : decode cL_law 1236 = .ok (.iconst 2, 1) := by decide +kernel
theorem dL_law_1237 : decode cL_law 1237 = .ok (.iadd, 1) := by decide +kernel
theorem dL_law_1238 : decode cL_law 1238 = .ok (.iaload, 1) := by decide +kernel
theorem dL_law_1239 : decode cL_law 1239 = .ok (.ifCond .eq 7, 3) := by decide +kernel
theorem dL_law_1242 : decode cL_law 1242 = .ok (.iconst 1, 1) := by decide +kernel
theorem dL_law_1243 : decode cL_law 1243 = .ok (.goto 4, 3) := by decide +kernel
theorem dL_law_1246 : decode cL_law 1246 = .ok (.iconst 0, 1) := by decide +kernel
theorem dL_law_1247 : decode cL_law 1247 = .ok (.invokevirtual 167, 3) := by decide +kernel
theorem dL_law_1250 : decode cL_law 1250 = .ok (.aload_n 2, 1) := by decide +kernel
theorem dL_law_1251 : decode cL_law 1251 = .ok (.aload_n 0, 1) := by decide +kernel
theorem dL_law_1252 : decode cL_law 1252 = .ok (.iload 4, 2) := by decide +kernel
theorem dL_law_1254 : decode cL_law 1254 = .ok (.iconst 1, 1) := by decide +kernel
theorem dL_law_1255 : decode cL_law 1255 = .ok (.iadd, 1) := by decide +kernel
theorem dL_law_1256 : decode cL_law 1256 = .ok (.iaload, 1) := by decide +kernel
theorem dL_law_1257 : decode cL_law 1257 = .ok (.aload_n 0, 1) := by decide +kernel
theorem dL_law_1258 : decode cL_law 1258 = .ok (.iload 4, 2) := by decide +kernel
theorem dL_law_1260 : decode cL_law 1260 = .ok (.iconst 2, 1) := by decide +kernel
theorem dL_law_1261 : decode cL_law 1261 = .ok (.iadd, 1) := by decide +kernel
theorem dL_law_1262 : decode cL_law 1262 = .ok (.iaload, 1) := by decide +kernel
theorem dL_law_1263 : decode cL_law 1263 = .ok (.ifCond .eq 7, 3) := by decide +kernel
theorem dL_law_1266 : decode cL_law 1266 = .ok (.iconst 1, 1) := by decide +kernel
theorem dL_law_1267 : decode cL_law 1267 = .ok (.goto 4, 3) := by decide +kernel
theorem dL_law_1270 : decode cL_law 1270 = .ok (.iconst 0, 1) := by decide +kernel
theorem dL_law_1271 : decode cL_law 1271 = .ok (.invokevirtual 170, 3) := by decide +kernel
theorem dL_law_1274 : decode cL_law 1274 = .ok (.if_icmp .eq 30, 3) := by decide +kernel
theorem dL_law_1277 : decode cL_law 1277 = .ok (.iconst 0, 1) := by decide +kernel
theorem dL_law_1278 : decode cL_law 1278 = .ok (.ireturn, 1) := by decide +kernel
theorem dL_law_1279 : decode cL_law 1279 = .ok (.aload_n 1, 1) := by decide +kernel
theorem dL_law_1280 : decode cL_law 1280 = .ok (.aload_n 0, 1) := by decide +kernel
theorem dL_law_1281 : decode cL_law 1281 = .ok (.iload 4, 2) := by decide +kernel
theorem dL_law_1283 : decode cL_law 1283 = .ok (.iconst 1, 1) := by decide +kernel
theorem dL_law_1284 : decode cL_law 1284 = .ok (.iadd, 1) := by decide +kernel
theorem dL_law_1285 : decode cL_law 1285 = .ok (.iaload, 1) := by decide +kernel
theorem dL_law_1286 : decode cL_law 1286 = .ok (.invokevirtual 171, 3) := by decide +kernel
theorem dL_law_1289 : decode cL_law 1289 = .ok (.aload_n 2, 1) := by decide +kernel
theorem dL_law_1290 : decode cL_law 1290 = .ok (.aload_n 0, 1) := by decide +kernel
theorem dL_law_1291 : decode cL_law 1291 = .ok (.iload 4, 2) := by decide +kernel
theorem dL_law_1293 : decode cL_law 1293 = .ok (.iconst 1, 1) := by decide +kernel
theorem dL_law_1294 : decode cL_law 1294 = .ok (.iadd, 1) := by decide +kernel
theorem dL_law_1295 : decode cL_law 1295 = .ok (.iaload, 1) := by decide +kernel
theorem dL_law_1296 : decode cL_law 1296 = .ok (.invokevirtual 174, 3) := by decide +kernel
theorem dL_law_1299 : decode cL_law 1299 = .ok (.if_icmp .eq 5, 3) := by decide +kernel
theorem dL_law_1302 : decode cL_law 1302 = .ok (.iconst 0, 1) := by decide +kernel
theorem dL_law_1303 : decode cL_law 1303 = .ok (.ireturn, 1) := by decide +kernel
theorem dL_law_1304 : decode cL_law 1304 = .ok (.iinc 4 7, 3) := by decide +kernel
theorem dL_law_1307 : decode cL_law 1307 = .ok (.goto (-1284), 3) := by decide +kernel
theorem dL_law_1310 : decode cL_law 1310 = .ok (.iconst 1, 1) := by decide +kernel
theorem dL_law_1311 : decode cL_law 1311 = .ok (.ireturn, 1) := by decide +kernel
