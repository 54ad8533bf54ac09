theorem dX0_init_0 : decode cX0_init 0 = .ok (.aload_n 0, 1) := by decide +kernel
theorem dX0_init_1 : decode cX0_init 1 = .ok (.invokespecial 3, 3) := by decide +kernel
theorem dX0_init_4 : decode cX0_init 4 = .ok (.aload_n 0, 1) := by decide +kernel
theorem dX0_init_5 : decode cX0_init 5 = .ok (.bipush 6, 2) := by decide +kernel
theorem dX0_init_7 : decode cX0_init 7 = .ok (.newarray .long, 2) := by decide +kernel
theorem dX0_init_9 : decode cX0_init 9 = .ok (.putfield 9, 3) := by decide +kernel
theorem dX0_init_12 : decode cX0_init 12 = .ok (.aload_n 0, 1) := by decide +kernel
theorem dX0_init_13 : decode cX0_init 13 = .ok (.bipush 6, 2) := by decide +kernel
theorem dX0_init_15 : decode cX0_init 15 = .ok (.newarray .int, 2) := by decide +kernel
theorem dX0_init_17 : decode cX0_init 17 = .ok (.putfield 15, 3) := by decide +kernel
theorem dX0_init_20 : decode cX0_init 20 = .ok (.aload_n 0, 1) := by decide +kernel
theorem dX0_init_21 : decode cX0_init 21 = .ok (.bipush 6, 2) := by decide +kernel
theorem dX0_init_23 : decode cX0_init 23 = .ok (.newarray .int, 2) := by decide +kernel
theorem dX0_init_25 : decode cX0_init 25 = .ok (.putfield 19, 3) := by decide +kernel
theorem dX0_init_28 : decode cX0_init 28 = .ok (.aload_n 0, 1) := by decide +kernel
theorem dX0_init_29 : decode cX0_init 29 = .ok (.bipush 6, 2) := by decide +kernel
theorem dX0_init_31 : decode cX0_init 31 = .ok (.newarray .int, 2) := by decide +kernel
theorem dX0_init_33 : decode cX0_init 33 = .ok (.putfield 22, 3) := by decide +kernel
theorem dX0_init_36 : decode cX0_init 36 = .ok (.aload_n 0, 1) := by decide +kernel
theorem dX0_init_37 : decode cX0_init 37 = .ok (.bipush 6, 2) := by decide +kernel
theorem dX0_init_39 : decode cX0_init 39 = .ok (.newarray .int, 2) := by decide +kernel
theorem dX0_init_41 : decode cX0_init 41 = .ok (.putfield 25, 3) := by decide +kernel
theorem dX0_init_44 : decode cX0_init 44 = .ok (.aload_n 0, 1) := by decide +kernel
theorem dX0_init_45 : decode cX0_init 45 = .ok (.new 28, 3) := by decide +kernel
theorem dX0_init_48 : decode cX0_init 48 = .ok (.dup, 1) := by decide +kernel
theorem dX0_init_49 : decode cX0_init 49 = .ok (.invokespecial 30, 3) := by decide +kernel
theorem dX0_init_52 : decode cX0_init 52 = .ok (.putfield 31, 3) := by decide +kernel
theorem dX0_init_55 : decode cX0_init 55 = .ok (.aload_n 0, 1) := by decide +kernel
theorem dX0_init_56 : decode cX0_init 56 = .ok (.iconst 5, 1) := by decide +kernel
theorem dX0_init_57 : decode cX0_init 57 = .ok (.putfield 35, 3) := by decide +kernel
theorem dX0_init_60 : decode cX0_init 60 = .ok (.return_, 1) := by decide +kernel
theorem dX0_clear_0 : decode cX0_clear 0 = .ok (.aload_n 0, 1) := by decide +kernel
theorem dX0_clear_1 : decode cX0_clear 1 = .ok (.iconst 0, 1) := by decide +kernel
theorem dX0_clear_2 : decode cX0_clear 2 = .ok (.putfield 39, 3) := by decide +kernel
theorem dX0_clear_5 : decode cX0_clear 5 = .ok (.aload_n 0, 1) := by decide +kernel
theorem dX0_clear_6 : decode cX0_clear 6 = .ok (.iconst 5, 1) := by decide +kernel
theorem dX0_clear_7 : decode cX0_clear 7 = .ok (.putfield 35, 3) := by decide +kernel
theorem dX0_clear_10 : decode cX0_clear 10 = .ok (.aload_n 0, 1) := by decide +kernel
theorem dX0_clear_11 : decode cX0_clear 11 = .ok (.getfield 31, 3) := by decide +kernel
theorem dX0_clear_14 : decode cX0_clear 14 = .ok (.invokevirtual 42, 3) := by decide +kernel
theorem dX0_clear_17 : decode cX0_clear 17 = .ok (.return_, 1) := by decide +kernel
theorem dX0_callerNamed_0 : decode cX0_callerNamed 0 = .ok (.iconst 0, 1) := by decide +kernel
theorem dX0_callerNamed_1 : decode cX0_callerNamed 1 = .ok (.istore_n 3, 1) := by decide +kernel
theorem dX0_callerNamed_2 : decode cX0_callerNamed 2 = .ok (.iload_n 3, 1) := by decide +kernel
theorem dX0_callerNamed_3 : decode cX0_callerNamed 3 = .ok (.aload_n 0, 1) := by decide +kernel
theorem dX0_callerNamed_4 : decode cX0_callerNamed 4 = .ok (.getfield 39, 3) := by decide +kernel
theorem dX0_callerNamed_7 : decode cX0_callerNamed 7 = .ok (.if_icmp .ge 22, 3) := by decide +kernel
theorem dX0_callerNamed_10 : decode cX0_callerNamed 10 = .ok (.aload_n 0, 1) := by decide +kernel
theorem dX0_callerNamed_11 : decode cX0_callerNamed 11 = .ok (.getfield 9, 3) := by decide +kernel
theorem dX0_callerNamed_14 : decode cX0_callerNamed 14 = .ok (.iload_n 3, 1) := by decide +kernel
theorem dX0_callerNamed_15 : decode cX0_callerNamed 15 = .ok (.laload, 1) := by decide +kernel
theorem dX0_callerNamed_16 : decode cX0_callerNamed 16 = .ok (.lload_n 1, 1) := by decide +kernel
theorem dX0_callerNamed_17 : decode cX0_callerNamed 17 = .ok (.lcmp, 1) := by decide +kernel
theorem dX0_callerNamed_18 : decode cX0_callerNamed 18 = .ok (.ifCond .ne 5, 3) := by decide +kernel
theorem dX0_callerNamed_21 : decode cX0_callerNamed 21 = .ok (.iload_n 3, 1) := by decide +kernel
theorem dX0_callerNamed_22 : decode cX0_callerNamed 22 = .ok (.ireturn, 1) := by decide +kernel
theorem dX0_callerNamed_23 : decode cX0_callerNamed 23 = .ok (.iinc 3 1, 3) := by decide +kernel
theorem dX0_callerNamed_26 : decode cX0_callerNamed 26 = .ok (.goto (-24), 3) := by decide +kernel
theorem dX0_callerNamed_29 : decode cX0_callerNamed 29 = .ok (.iconst (-1), 1) := by decide +kernel
theorem dX0_callerNamed_30 : decode cX0_callerNamed 30 = .ok (.ireturn, 1) := by decide +kernel
theorem dX1_init_0 : decode cX1_init 0 = .ok (.aload_n 0, 1) := by decide +kernel
theorem dX1_init_1 : decode cX1_init 1 = .ok (.invokespecial 3, 3) := by decide +kernel
theorem dX1_init_4 : decode cX1_init 4 = .ok (.aload_n 0, 1) := by decide +kernel
theorem dX1_init_5 : decode cX1_init 5 = .ok (.bipush 6, 2) := by decide +kernel
theorem dX1_init_7 : decode cX1_init 7 = .ok (.newarray .int, 2) := by decide +kernel
theorem dX1_init_9 : decode cX1_init 9 = .ok (.putfield 9, 3) := by decide +kernel
theorem dX1_init_12 : decode cX1_init 12 = .ok (.aload_n 0, 1) := by decide +kernel
theorem dX1_init_13 : decode cX1_init 13 = .ok (.bipush 6, 2) := by decide +kernel
theorem dX1_init_15 : decode cX1_init 15 = .ok (.newarray .int, 2) := by decide +kernel
theorem dX1_init_17 : decode cX1_init 17 = .ok (.putfield 15, 3) := by decide +kernel
theorem dX1_init_20 : decode cX1_init 20 = .ok (.aload_n 0, 1) := by decide +kernel
theorem dX1_init_21 : decode cX1_init 21 = .ok (.bipush 6, 2) := by decide +kernel
theorem dX1_init_23 : decode cX1_init 23 = .ok (.newarray .int, 2) := by decide +kernel
theorem dX1_init_25 : decode cX1_init 25 = .ok (.putfield 18, 3) := by decide +kernel
theorem dX1_init_28 : decode cX1_init 28 = .ok (.aload_n 0, 1) := by decide +kernel
theorem dX1_init_29 : decode cX1_init 29 = .ok (.bipush 36, 2) := by decide +kernel
theorem dX1_init_31 : decode cX1_init 31 = .ok (.newarray .int, 2) := by decide +kernel
theorem dX1_init_33 : decode cX1_init 33 = .ok (.putfield 21, 3) := by decide +kernel
theorem dX1_init_36 : decode cX1_init 36 = .ok (.return_, 1) := by decide +kernel
theorem dX1_begin_0 : decode cX1_begin 0 = .ok (.iconst 0, 1) := by decide +kernel
theorem dX1_begin_1 : decode cX1_begin 1 = .ok (.istore_n 2, 1) := by decide +kernel
theorem dX1_begin_2 : decode cX1_begin 2 = .ok (.iload_n 2, 1) := by decide +kernel
theorem dX1_begin_3 : decode cX1_begin 3 = .ok (.aload_n 0, 1) := by decide +kernel
theorem dX1_begin_4 : decode cX1_begin 4 = .ok (.getfield 21, 3) := by decide +kernel
theorem dX1_begin_7 : decode cX1_begin 7 = .ok (.arraylength, 1) := by decide +kernel
theorem dX1_begin_8 : decode cX1_begin 8 = .ok (.if_icmp .ge 16, 3) := by decide +kernel
theorem dX1_begin_11 : decode cX1_begin 11 = .ok (.aload_n 0, 1) := by decide +kernel
theorem dX1_begin_12 : decode cX1_begin 12 = .ok (.getfield 21, 3) := by decide +kernel
theorem dX1_begin_15 : decode cX1_begin 15 = .ok (.iload_n 2, 1) := by decide +kernel
theorem dX1_begin_16 : decode cX1_begin 16 = .ok (.iconst 0, 1) := by decide +kernel
theorem dX1_begin_17 : decode cX1_begin 17 = .ok (.iastore, 1) := by decide +kernel
theorem dX1_begin_18 : decode cX1_begin 18 = .ok (.iinc 2 1, 3) := by decide +kernel
theorem dX1_begin_21 : decode cX1_begin 21 = .ok (.goto (-19), 3) := by decide +kernel
theorem dX1_begin_24 : decode cX1_begin 24 = .ok (.iconst 0, 1) := by decide +kernel
theorem dX1_begin_25 : decode cX1_begin 25 = .ok (.istore_n 2, 1) := by decide +kernel
theorem dX1_begin_26 : decode cX1_begin 26 = .ok (.iload_n 2, 1) := by decide +kernel
theorem dX1_begin_27 : decode cX1_begin 27 = .ok (.bipush 6, 2) := by decide +kernel
theorem dX1_begin_29 : decode cX1_begin 29 = .ok (.if_icmp .ge 40, 3) := by decide +kernel
theorem dX1_begin_32 : decode cX1_begin 32 = .ok (.aload_n 0, 1) := by decide +kernel
theorem dX1_begin_33 : decode cX1_begin 33 = .ok (.getfield 9, 3) := by decide +kernel
theorem dX1_begin_36 : decode cX1_begin 36 = .ok (.iload_n 2, 1) := by decide +kernel
theorem dX1_begin_37 : decode cX1_begin 37 = .ok (.iload_n 2, 1) := by decide +kernel
theorem dX1_begin_38 : decode cX1_begin 38 = .ok (.aload_n 1, 1) := by decide +kernel
theorem dX1_begin_39 : decode cX1_begin 39 = .ok (.getfield 24, 3) := by decide +kernel
theorem dX1_begin_42 : decode cX1_begin 42 = .ok (.if_icmp .ge 12, 3) := by decide +kernel
theorem dX1_begin_45 : decode cX1_begin 45 = .ok (.aload_n 1, 1) := by decide +kernel
theorem dX1_begin_46 : decode cX1_begin 46 = .ok (.getfield 30, 3) := by decide +kernel
theorem dX1_begin_49 : decode cX1_begin 49 = .ok (.iload_n 2, 1) := by decide +kernel
theorem dX1_begin_50 : decode cX1_begin 50 = .ok (.iaload, 1) := by decide +kernel
theorem dX1_begin_51 : decode cX1_begin 51 = .ok (.goto 4, 3) := by decide +kernel
theorem dX1_begin_54 : decode cX1_begin 54 = .ok (.iconst 0, 1) := by decide +kernel
theorem dX1_begin_55 : decode cX1_begin 55 = .ok (.iastore, 1) := by decide +kernel
theorem dX1_begin_56 : decode cX1_begin 56 = .ok (.aload_n 0, 1) := by decide +kernel
theorem dX1_begin_57 : decode cX1_begin 57 = .ok (.getfield 15, 3) := by decide +kernel
theorem dX1_begin_60 : decode cX1_begin 60 = .ok (.iload_n 2, 1) := by decide +kernel
theorem dX1_begin_61 : decode cX1_begin 61 = .ok (.iconst 0, 1) := by decide +kernel
theorem dX1_begin_62 : decode cX1_begin 62 = .ok (.iastore, 1) := by decide +kernel
theorem dX1_begin_63 : decode cX1_begin 63 = .ok (.iinc 2 1, 3) := by decide +kernel
theorem dX1_begin_66 : decode cX1_begin 66 = .ok (.goto (-40), 3) := by decide +kernel
theorem dX1_begin_69 : decode cX1_begin 69 = .ok (.aload_n 0, 1) := by decide +kernel
theorem dX1_begin_70 : decode cX1_begin 70 = .ok (.iconst 0, 1) := by decide +kernel
theorem dX1_begin_71 : decode cX1_begin 71 = .ok (.putfield 33, 3) := by decide +kernel
theorem dX1_begin_74 : decode cX1_begin 74 = .ok (.aload_n 0, 1) := by decide +kernel
theorem dX1_begin_75 : decode cX1_begin 75 = .ok (.iconst 0, 1) := by decide +kernel
theorem dX1_begin_76 : decode cX1_begin 76 = .ok (.putfield 36, 3) := by decide +kernel
theorem dX1_begin_79 : decode cX1_begin 79 = .ok (.aload_n 0, 1) := by decide +kernel
theorem dX1_begin_80 : decode cX1_begin 80 = .ok (.iconst 0, 1) := by decide +kernel
theorem dX1_begin_81 : decode cX1_begin 81 = .ok (.putfield 39, 3) := by decide +kernel
theorem dX1_begin_84 : decode cX1_begin 84 = .ok (.aload_n 0, 1) := by decide +kernel
theorem dX1_begin_85 : decode cX1_begin 85 = .ok (.iconst 0, 1) := by decide +kernel
theorem dX1_begin_86 : decode cX1_begin 86 = .ok (.putfield 42, 3) := by decide +kernel
theorem dX1_begin_89 : decode cX1_begin 89 = .ok (.return_, 1) := by decide +kernel
theorem dX1_copyFrom_0 : decode cX1_copyFrom 0 = .ok (.aload_n 1, 1) := by decide +kernel
theorem dX1_copyFrom_1 : decode cX1_copyFrom 1 = .ok (.getfield 9, 3) := by decide +kernel
theorem dX1_copyFrom_4 : decode cX1_copyFrom 4 = .ok (.iconst 0, 1) := by decide +kernel
theorem dX1_copyFrom_5 : decode cX1_copyFrom 5 = .ok (.aload_n 0, 1) := by decide +kernel
theorem dX1_copyFrom_6 : decode cX1_copyFrom 6 = .ok (.getfield 9, 3) := by decide +kernel
theorem dX1_copyFrom_9 : decode cX1_copyFrom 9 = .ok (.iconst 0, 1) := by decide +kernel
theorem dX1_copyFrom_10 : decode cX1_copyFrom 10 = .ok (.bipush 6, 2) := by decide +kernel
theorem dX1_copyFrom_12 : decode cX1_copyFrom 12 = .ok (.invokestatic 45, 3) := by decide +kernel
theorem dX1_copyFrom_15 : decode cX1_copyFrom 15 = .ok (.aload_n 1, 1) := by decide +kernel
theorem dX1_copyFrom_16 : decode cX1_copyFrom 16 = .ok (.getfield 15, 3) := by decide +kernel
theorem dX1_copyFrom_19 : decode cX1_copyFrom 19 = .ok (.iconst 0, 1) := by decide +kernel
theorem dX1_copyFrom_20 : decode cX1_copyFrom 20 = .ok (.aload_n 0, 1) := by decide +kernel
theorem dX1_copyFrom_21 : decode cX1_copyFrom 21 = .ok (.getfield 15, 3) := by decide +kernel
theorem dX1_copyFrom_24 : decode cX1_copyFrom 24 = .ok (.iconst 0, 1) := by decide +kernel
theorem dX1_copyFrom_25 : decode cX1_copyFrom 25 = .ok (.bipush 6, 2) := by decide +kernel
theorem dX1_copyFrom_27 : decode cX1_copyFrom 27 = .ok (.invokestatic 45, 3) := by decide +kernel
theorem dX1_copyFrom_30 : decode cX1_copyFrom 30 = .ok (.aload_n 1, 1) := by decide +kernel
theorem dX1_copyFrom_31 : decode cX1_copyFrom 31 = .ok (.getfield 18, 3) := by decide +kernel
theorem dX1_copyFrom_34 : decode cX1_copyFrom 34 = .ok (.iconst 0, 1) := by decide +kernel
theorem dX1_copyFrom_35 : decode cX1_copyFrom 35 = .ok (.aload_n 0, 1) := by decide +kernel
theorem dX1_copyFrom_36 : decode cX1_copyFrom 36 = .ok (.getfield 18, 3) := by decide +kernel
theorem dX1_copyFrom_39 : decode cX1_copyFrom 39 = .ok (.iconst 0, 1) := by decide +kernel
theorem dX1_copyFrom_40 : decode cX1_copyFrom 40 = .ok (.bipush 6, 2) := by decide +kernel
theorem dX1_copyFrom_42 : decode cX1_copyFrom 42 = .ok (.invokestatic 45, 3) := by decide +kernel
theorem dX1_copyFrom_45 : decode cX1_copyFrom 45 = .ok (.aload_n 1, 1) := by decide +kernel
theorem dX1_copyFrom_46 : decode cX1_copyFrom 46 = .ok (.getfield 21, 3) := by decide +kernel
theorem dX1_copyFrom_49 : decode cX1_copyFrom 49 = .ok (.iconst 0, 1) := by decide +kernel
theorem dX1_copyFrom_50 : decode cX1_copyFrom 50 = .ok (.aload_n 0, 1) := by decide +kernel
theorem dX1_copyFrom_51 : decode cX1_copyFrom 51 = .ok (.getfield 21, 3) := by decide +kernel
theorem dX1_copyFrom_54 : decode cX1_copyFrom 54 = .ok (.iconst 0, 1) := by decide +kernel
theorem dX1_copyFrom_55 : decode cX1_copyFrom 55 = .ok (.aload_n 0, 1) := by decide +kernel
theorem dX1_copyFrom_56 : decode cX1_copyFrom 56 = .ok (.getfield 21, 3) := by decide +kernel
theorem dX1_copyFrom_59 : decode cX1_copyFrom 59 = .ok (.arraylength, 1) := by decide +kernel
theorem dX1_copyFrom_60 : decode cX1_copyFrom 60 = .ok (.invokestatic 45, 3) := by decide +kernel
theorem dX1_copyFrom_63 : decode cX1_copyFrom 63 = .ok (.aload_n 0, 1) := by decide +kernel
theorem dX1_copyFrom_64 : decode cX1_copyFrom 64 = .ok (.aload_n 1, 1) := by decide +kernel
theorem dX1_copyFrom_65 : decode cX1_copyFrom 65 = .ok (.getfield 33, 3) := by decide +kernel
theorem dX1_copyFrom_68 : decode cX1_copyFrom 68 = .ok (.putfield 33, 3) := by decide +kernel
theorem dX1_copyFrom_71 : decode cX1_copyFrom 71 = .ok (.aload_n 0, 1) := by decide +kernel
theorem dX1_copyFrom_72 : decode cX1_copyFrom 72 = .ok (.aload_n 1, 1) := by decide +kernel
theorem dX1_copyFrom_73 : decode cX1_copyFrom 73 = .ok (.getfield 36, 3) := by decide +kernel
theorem dX1_copyFrom_76 : decode cX1_copyFrom 76 = .ok (.putfield 36, 3) := by decide +kernel
theorem dX1_copyFrom_79 : decode cX1_copyFrom 79 = .ok (.aload_n 0, 1) := by decide +kernel
theorem dX1_copyFrom_80 : decode cX1_copyFrom 80 = .ok (.aload_n 1, 1) := by decide +kernel
theorem dX1_copyFrom_81 : decode cX1_copyFrom 81 = .ok (.getfield 39, 3) := by decide +kernel
theorem dX1_copyFrom_84 : decode cX1_copyFrom 84 = .ok (.putfield 39, 3) := by decide +kernel
theorem dX1_copyFrom_87 : decode cX1_copyFrom 87 = .ok (.aload_n 0, 1) := by decide +kernel
theorem dX1_copyFrom_88 : decode cX1_copyFrom 88 = .ok (.aload_n 1, 1) := by decide +kernel
theorem dX1_copyFrom_89 : decode cX1_copyFrom 89 = .ok (.getfield 42, 3) := by decide +kernel
theorem dX1_copyFrom_92 : decode cX1_copyFrom 92 = .ok (.putfield 42, 3) := by decide +kernel
theorem dX1_copyFrom_95 : decode cX1_copyFrom 95 = .ok (.return_, 1) := by decide +kernel
theorem dX1_isSettled_0 : decode cX1_isSettled 0 = .ok (.aload_n 0, 1) := by decide +kernel
theorem dX1_isSettled_1 : decode cX1_isSettled 1 = .ok (.getfield 36, 3) := by decide +kernel
theorem dX1_isSettled_4 : decode cX1_isSettled 4 = .ok (.iload_n 1, 1) := by decide +kernel
theorem dX1_isSettled_5 : decode cX1_isSettled 5 = .ok (.ishr, 1) := by decide +kernel
theorem dX1_isSettled_6 : decode cX1_isSettled 6 = .ok (.iconst 1, 1) := by decide +kernel
theorem dX1_isSettled_7 : decode cX1_isSettled 7 = .ok (.iand, 1) := by decide +kernel
theorem dX1_isSettled_8 : decode cX1_isSettled 8 = .ok (.iconst 1, 1) := by decide +kernel
theorem dX1_isSettled_9 : decode cX1_isSettled 9 = .ok (.if_icmp .ne 7, 3) := by decide +kernel
theorem dX1_isSettled_12 : decode cX1_isSettled 12 = .ok (.iconst 1, 1) := by decide +kernel
theorem dX1_isSettled_13 : decode cX1_isSettled 13 = .ok (.goto 4, 3) := by decide +kernel
theorem dX1_isSettled_16 : decode cX1_isSettled 16 = .ok (.iconst 0, 1) := by decide +kernel
theorem dX1_isSettled_17 : decode cX1_isSettled 17 = .ok (.ireturn, 1) := by decide +kernel
theorem dX1_placeOf_0 : decode cX1_placeOf 0 = .ok (.iconst 0, 1) := by decide +kernel
theorem dX1_placeOf_1 : decode cX1_placeOf 1 = .ok (.istore_n 2, 1) := by decide +kernel
theorem dX1_placeOf_2 : decode cX1_placeOf 2 = .ok (.iload_n 2, 1) := by decide +kernel
theorem dX1_placeOf_3 : decode cX1_placeOf 3 = .ok (.aload_n 0, 1) := by decide +kernel
theorem dX1_placeOf_4 : decode cX1_placeOf 4 = .ok (.getfield 33, 3) := by decide +kernel
theorem dX1_placeOf_7 : decode cX1_placeOf 7 = .ok (.if_icmp .ge 21, 3) := by decide +kernel
theorem dX1_placeOf_10 : decode cX1_placeOf 10 = .ok (.aload_n 0, 1) := by decide +kernel
theorem dX1_placeOf_11 : decode cX1_placeOf 11 = .ok (.getfield 18, 3) := by decide +kernel
theorem dX1_placeOf_14 : decode cX1_placeOf 14 = .ok (.iload_n 2, 1) := by decide +kernel
theorem dX1_placeOf_15 : decode cX1_placeOf 15 = .ok (.iaload, 1) := by decide +kernel
theorem dX1_placeOf_16 : decode cX1_placeOf 16 = .ok (.iload_n 1, 1) := by decide +kernel
theorem dX1_placeOf_17 : decode cX1_placeOf 17 = .ok (.if_icmp .ne 5, 3) := by decide +kernel
theorem dX1_placeOf_20 : decode cX1_placeOf 20 = .ok (.iload_n 2, 1) := by decide +kernel
theorem dX1_placeOf_21 : decode cX1_placeOf 21 = .ok (.ireturn, 1) := by decide +kernel
theorem dX1_placeOf_22 : decode cX1_placeOf 22 = .ok (.iinc 2 1, 3) := by decide +kernel
theorem dX1_placeOf_25 : decode cX1_placeOf 25 = .ok (.goto (-23), 3) := by decide +kernel
theorem dX1_placeOf_28 : decode cX1_placeOf 28 = .ok (.iconst (-1), 1) := by decide +kernel
theorem dX1_placeOf_29 : decode cX1_placeOf 29 = .ok (.ireturn, 1) := by decide +kernel
theorem dX1_lineBits_0 : decode cX1_lineBits 0 = .ok (.iconst 0, 1) := by decide +kernel
theorem dX1_lineBits_1 : decode cX1_lineBits 1 = .ok (.istore_n 1, 1) := by decide +kernel
theorem dX1_lineBits_2 : decode cX1_lineBits 2 = .ok (.iconst 0, 1) := by decide +kernel
theorem dX1_lineBits_3 : decode cX1_lineBits 3 = .ok (.istore_n 2, 1) := by decide +kernel
theorem dX1_lineBits_4 : decode cX1_lineBits 4 = .ok (.iload_n 2, 1) := by decide +kernel
theorem dX1_lineBits_5 : decode cX1_lineBits 5 = .ok (.aload_n 0, 1) := by decide +kernel
theorem dX1_lineBits_6 : decode cX1_lineBits 6 = .ok (.getfield 33, 3) := by decide +kernel
theorem dX1_lineBits_9 : decode cX1_lineBits 9 = .ok (.if_icmp .ge 20, 3) := by decide +kernel
theorem dX1_lineBits_12 : decode cX1_lineBits 12 = .ok (.iload_n 1, 1) := by decide +kernel
theorem dX1_lineBits_13 : decode cX1_lineBits 13 = .ok (.iconst 1, 1) := by decide +kernel
theorem dX1_lineBits_14 : decode cX1_lineBits 14 = .ok (.aload_n 0, 1) := by decide +kernel
theorem dX1_lineBits_15 : decode cX1_lineBits 15 = .ok (.getfield 18, 3) := by decide +kernel
theorem dX1_lineBits_18 : decode cX1_lineBits 18 = .ok (.iload_n 2, 1) := by decide +kernel
theorem dX1_lineBits_19 : decode cX1_lineBits 19 = .ok (.iaload, 1) := by decide +kernel
theorem dX1_lineBits_20 : decode cX1_lineBits 20 = .ok (.ishl, 1) := by decide +kernel
theorem dX1_lineBits_21 : decode cX1_lineBits 21 = .ok (.ior, 1) := by decide +kernel
theorem dX1_lineBits_22 : decode cX1_lineBits 22 = .ok (.istore_n 1, 1) := by decide +kernel
theorem dX1_lineBits_23 : decode cX1_lineBits 23 = .ok (.iinc 2 1, 3) := by decide +kernel
theorem dX1_lineBits_26 : decode cX1_lineBits 26 = .ok (.goto (-22), 3) := by decide +kernel
theorem dX1_lineBits_29 : decode cX1_lineBits 29 = .ok (.iload_n 1, 1) := by decide +kernel
theorem dX1_lineBits_30 : decode cX1_lineBits 30 = .ok (.ireturn, 1) := by decide +kernel
theorem dX1_whoHas_0 : decode cX1_whoHas 0 = .ok (.iconst 0, 1) := by decide +kernel
theorem dX1_whoHas_1 : decode cX1_whoHas 1 = .ok (.istore_n 3, 1) := by decide +kernel
theorem dX1_whoHas_2 : decode cX1_whoHas 2 = .ok (.iconst 0, 1) := by decide +kernel
theorem dX1_whoHas_3 : decode cX1_whoHas 3 = .ok (.istore 4, 2) := by decide +kernel
theorem dX1_whoHas_5 : decode cX1_whoHas 5 = .ok (.iload 4, 2) := by decide +kernel
theorem dX1_whoHas_7 : decode cX1_whoHas 7 = .ok (.iload_n 2, 1) := by decide +kernel
theorem dX1_whoHas_8 : decode cX1_whoHas 8 = .ok (.if_icmp .ge 26, 3) := by decide +kernel
theorem dX1_whoHas_11 : decode cX1_whoHas 11 = .ok (.iload_n 3, 1) := by decide +kernel
theorem dX1_whoHas_12 : decode cX1_whoHas 12 = .ok (.aload_n 0, 1) := by decide +kernel
theorem dX1_whoHas_13 : decode cX1_whoHas 13 = .ok (.getfield 9, 3) := by decide +kernel
theorem dX1_whoHas_16 : decode cX1_whoHas 16 = .ok (.iload 4, 2) := by decide +kernel
theorem dX1_whoHas_18 : decode cX1_whoHas 18 = .ok (.iaload, 1) := by decide +kernel
theorem dX1_whoHas_19 : decode cX1_whoHas 19 = .ok (.iload_n 1, 1) := by decide +kernel
theorem dX1_whoHas_20 : decode cX1_whoHas 20 = .ok (.ishr, 1) := by decide +kernel
theorem dX1_whoHas_21 : decode cX1_whoHas 21 = .ok (.iconst 1, 1) := by decide +kernel
theorem dX1_whoHas_22 : decode cX1_whoHas 22 = .ok (.iand, 1) := by decide +kernel
theorem dX1_whoHas_23 : decode cX1_whoHas 23 = .ok (.iload 4, 2) := by decide +kernel
theorem dX1_whoHas_25 : decode cX1_whoHas 25 = .ok (.ishl, 1) := by decide +kernel
theorem dX1_whoHas_26 : decode cX1_whoHas 26 = .ok (.ior, 1) := by decide +kernel
theorem dX1_whoHas_27 : decode cX1_whoHas 27 = .ok (.istore_n 3, 1) := by decide +kernel
theorem dX1_whoHas_28 : decode cX1_whoHas 28 = .ok (.iinc 4 1, 3) := by decide +kernel
theorem dX1_whoHas_31 : decode cX1_whoHas 31 = .ok (.goto (-26), 3) := by decide +kernel
theorem dX1_whoHas_34 : decode cX1_whoHas 34 = .ok (.iload_n 3, 1) := by decide +kernel
theorem dX1_whoHas_35 : decode cX1_whoHas 35 = .ok (.ireturn, 1) := by decide +kernel
theorem dX1_answersInAll_0 : decode cX1_answersInAll 0 = .ok (.iconst 0, 1) := by decide +kernel
theorem dX1_answersInAll_1 : decode cX1_answersInAll 1 = .ok (.istore_n 2, 1) := by decide +kernel
theorem dX1_answersInAll_2 : decode cX1_answersInAll 2 = .ok (.iconst 0, 1) := by decide +kernel
theorem dX1_answersInAll_3 : decode cX1_answersInAll 3 = .ok (.istore_n 3, 1) := by decide +kernel
theorem dX1_answersInAll_4 : decode cX1_answersInAll 4 = .ok (.iload_n 3, 1) := by decide +kernel
theorem dX1_answersInAll_5 : decode cX1_answersInAll 5 = .ok (.iload_n 1, 1) := by decide +kernel
theorem dX1_answersInAll_6 : decode cX1_answersInAll 6 = .ok (.if_icmp .ge 21, 3) := by decide +kernel
theorem dX1_answersInAll_9 : decode cX1_answersInAll 9 = .ok (.iload_n 2, 1) := by decide +kernel
theorem dX1_answersInAll_10 : decode cX1_answersInAll 10 = .ok (.aload_n 0, 1) := by decide +kernel
theorem dX1_answersInAll_11 : decode cX1_answersInAll 11 = .ok (.getfield 9, 3) := by decide +kernel
theorem dX1_answersInAll_14 : decode cX1_answersInAll 14 = .ok (.iload_n 3, 1) := by decide +kernel
theorem dX1_answersInAll_15 : decode cX1_answersInAll 15 = .ok (.iaload, 1) := by decide +kernel
theorem dX1_answersInAll_16 : decode cX1_answersInAll 16 = .ok (.invokestatic 51, 3) := by decide +kernel
theorem dX1_answersInAll_19 : decode cX1_answersInAll 19 = .ok (.iadd, 1) := by decide +kernel
theorem dX1_answersInAll_20 : decode cX1_answersInAll 20 = .ok (.istore_n 2, 1) := by decide +kernel
theorem dX1_answersInAll_21 : decode cX1_answersInAll 21 = .ok (.iinc 3 1, 3) := by decide +kernel
theorem dX1_answersInAll_24 : decode cX1_answersInAll 24 = .ok (.goto (-20), 3) := by decide +kernel
theorem dX1_answersInAll_27 : decode cX1_answersInAll 27 = .ok (.iload_n 2, 1) := by decide +kernel
theorem dX1_answersInAll_28 : decode cX1_answersInAll 28 = .ok (.ireturn, 1) := by decide +kernel
theorem dX1_canRing_0 : decode cX1_canRing 0 = .ok (.aload_n 0, 1) := by decide +kernel
theorem dX1_canRing_1 : decode cX1_canRing 1 = .ok (.iload_n 1, 1) := by decide +kernel
theorem dX1_canRing_2 : decode cX1_canRing 2 = .ok (.invokevirtual 57, 3) := by decide +kernel
theorem dX1_canRing_5 : decode cX1_canRing 5 = .ok (.ifCond .ne 16, 3) := by decide +kernel
theorem dX1_canRing_8 : decode cX1_canRing 8 = .ok (.aload_n 0, 1) := by decide +kernel
theorem dX1_canRing_9 : decode cX1_canRing 9 = .ok (.iload_n 1, 1) := by decide +kernel
theorem dX1_canRing_10 : decode cX1_canRing 10 = .ok (.invokevirtual 61, 3) := by decide +kernel
theorem dX1_canRing_13 : decode cX1_canRing 13 = .ok (.iconst (-1), 1) := by decide +kernel
theorem dX1_canRing_14 : decode cX1_canRing 14 = .ok (.if_icmp .ne 7, 3) := by decide +kernel
theorem dX1_canRing_17 : decode cX1_canRing 17 = .ok (.iconst 1, 1) := by decide +kernel
theorem dX1_canRing_18 : decode cX1_canRing 18 = .ok (.goto 4, 3) := by decide +kernel
theorem dX1_canRing_21 : decode cX1_canRing 21 = .ok (.iconst 0, 1) := by decide +kernel
theorem dX1_canRing_22 : decode cX1_canRing 22 = .ok (.ireturn, 1) := by decide +kernel
theorem dX1_comeToEnd_0 : decode cX1_comeToEnd 0 = .ok (.aload_n 0, 1) := by decide +kernel
theorem dX1_comeToEnd_1 : decode cX1_comeToEnd 1 = .ok (.getfield 33, 3) := by decide +kernel
theorem dX1_comeToEnd_4 : decode cX1_comeToEnd 4 = .ok (.bipush 6, 2) := by decide +kernel
theorem dX1_comeToEnd_6 : decode cX1_comeToEnd 6 = .ok (.if_icmp .ge 30, 3) := by decide +kernel
theorem dX1_comeToEnd_9 : decode cX1_comeToEnd 9 = .ok (.aload_n 0, 1) := by decide +kernel
theorem dX1_comeToEnd_10 : decode cX1_comeToEnd 10 = .ok (.getfield 18, 3) := by decide +kernel
theorem dX1_comeToEnd_13 : decode cX1_comeToEnd 13 = .ok (.aload_n 0, 1) := by decide +kernel
theorem dX1_comeToEnd_14 : decode cX1_comeToEnd 14 = .ok (.getfield 33, 3) := by decide +kernel
theorem dX1_comeToEnd_17 : decode cX1_comeToEnd 17 = .ok (.iload_n 1, 1) := by decide +kernel
theorem dX1_comeToEnd_18 : decode cX1_comeToEnd 18 = .ok (.iastore, 1) := by decide +kernel
theorem dX1_comeToEnd_19 : decode cX1_comeToEnd 19 = .ok (.aload_n 0, 1) := by decide +kernel
theorem dX1_comeToEnd_20 : decode cX1_comeToEnd 20 = .ok (.dup, 1) := by decide +kernel
theorem dX1_comeToEnd_21 : decode cX1_comeToEnd 21 = .ok (.getfield 33, 3) := by decide +kernel
theorem dX1_comeToEnd_24 : decode cX1_comeToEnd 24 = .ok (.iconst 1, 1) := by decide +kernel
theorem dX1_comeToEnd_25 : decode cX1_comeToEnd 25 = .ok (.iadd, 1) := by decide +kernel
theorem dX1_comeToEnd_26 : decode cX1_comeToEnd 26 = .ok (.putfield 33, 3) := by decide +kernel
theorem dX1_comeToEnd_29 : decode cX1_comeToEnd 29 = .ok (.aload_n 0, 1) := by decide +kernel
theorem dX1_comeToEnd_30 : decode cX1_comeToEnd 30 = .ok (.getfield 15, 3) := by decide +kernel
theorem dX1_comeToEnd_33 : decode cX1_comeToEnd 33 = .ok (.iload_n 1, 1) := by decide +kernel
theorem dX1_comeToEnd_34 : decode cX1_comeToEnd 34 = .ok (.iconst 0, 1) := by decide +kernel
theorem dX1_comeToEnd_35 : decode cX1_comeToEnd 35 = .ok (.iastore, 1) := by decide +kernel
theorem dX1_comeToEnd_36 : decode cX1_comeToEnd 36 = .ok (.return_, 1) := by decide +kernel
theorem dX1_leave_0 : decode cX1_leave 0 = .ok (.aload_n 0, 1) := by decide +kernel
theorem dX1_leave_1 : decode cX1_leave 1 = .ok (.iload_n 1, 1) := by decide +kernel
theorem dX1_leave_2 : decode cX1_leave 2 = .ok (.invokevirtual 61, 3) := by decide +kernel
theorem dX1_leave_5 : decode cX1_leave 5 = .ok (.istore_n 2, 1) := by decide +kernel
theorem dX1_leave_6 : decode cX1_leave 6 = .ok (.iload_n 2, 1) := by decide +kernel
theorem dX1_leave_7 : decode cX1_leave 7 = .ok (.iconst (-1), 1) := by decide +kernel
theorem dX1_leave_8 : decode cX1_leave 8 = .ok (.if_icmp .ne 4, 3) := by decide +kernel
theorem dX1_leave_11 : decode cX1_leave 11 = .ok (.return_, 1) := by decide +kernel
theorem dX1_leave_12 : decode cX1_leave 12 = .ok (.iload_n 2, 1) := by decide +kernel
theorem dX1_leave_13 : decode cX1_leave 13 = .ok (.iconst 1, 1) := by decide +kernel
theorem dX1_leave_14 : decode cX1_leave 14 = .ok (.iadd, 1) := by decide +kernel
theorem dX1_leave_15 : decode cX1_leave 15 = .ok (.istore_n 3, 1) := by decide +kernel
theorem dX1_leave_16 : decode cX1_leave 16 = .ok (.iload_n 3, 1) := by decide +kernel
theorem dX1_leave_17 : decode cX1_leave 17 = .ok (.aload_n 0, 1) := by decide +kernel
theorem dX1_leave_18 : decode cX1_leave 18 = .ok (.getfield 33, 3) := by decide +kernel
theorem dX1_leave_21 : decode cX1_leave 21 = .ok (.if_icmp .ge 23, 3) := by decide +kernel
theorem dX1_leave_24 : decode cX1_leave 24 = .ok (.aload_n 0, 1) := by decide +kernel
theorem dX1_leave_25 : decode cX1_leave 25 = .ok (.getfield 18, 3) := by decide +kernel
theorem dX1_leave_28 : decode cX1_leave 28 = .ok (.iload_n 3, 1) := by decide +kernel
theorem dX1_leave_29 : decode cX1_leave 29 = .ok (.iconst 1, 1) := by decide +kernel
theorem dX1_leave_30 : decode cX1_leave 30 = .ok (.isub, 1) := by decide +kernel
theorem dX1_leave_31 : decode cX1_leave 31 = .ok (.aload_n 0, 1) := by decide +kernel
theorem dX1_leave_32 : decode cX1_leave 32 = .ok (.getfield 18, 3) := by decide +kernel
theorem dX1_leave_35 : decode cX1_leave 35 = .ok (.iload_n 3, 1) := by decide +kernel
theorem dX1_leave_36 : decode cX1_leave 36 = .ok (.iaload, 1) := by decide +kernel
theorem dX1_leave_37 : decode cX1_leave 37 = .ok (.iastore, 1) := by decide +kernel
theorem dX1_leave_38 : decode cX1_leave 38 = .ok (.iinc 3 1, 3) := by decide +kernel
theorem dX1_leave_41 : decode cX1_leave 41 = .ok (.goto (-25), 3) := by decide +kernel
theorem dX1_leave_44 : decode cX1_leave 44 = .ok (.aload_n 0, 1) := by decide +kernel
theorem dX1_leave_45 : decode cX1_leave 45 = .ok (.dup, 1) := by decide +kernel
theorem dX1_leave_46 : decode cX1_leave 46 = .ok (.getfield 33, 3) := by decide +kernel
theorem dX1_leave_49 : decode cX1_leave 49 = .ok (.iconst 1, 1) := by decide +kernel
theorem dX1_leave_50 : decode cX1_leave 50 = .ok (.isub, 1) := by decide +kernel
theorem dX1_leave_51 : decode cX1_leave 51 = .ok (.putfield 33, 3) := by decide +kernel
theorem dX1_leave_54 : decode cX1_leave 54 = .ok (.aload_n 0, 1) := by decide +kernel
theorem dX1_leave_55 : decode cX1_leave 55 = .ok (.getfield 15, 3) := by decide +kernel
theorem dX1_leave_58 : decode cX1_leave 58 = .ok (.iload_n 1, 1) := by decide +kernel
theorem dX1_leave_59 : decode cX1_leave 59 = .ok (.iconst 0, 1) := by decide +kernel
theorem dX1_leave_60 : decode cX1_leave 60 = .ok (.iastore, 1) := by decide +kernel
theorem dX1_leave_61 : decode cX1_leave 61 = .ok (.return_, 1) := by decide +kernel
theorem dX1_changePlaces_0 : decode cX1_changePlaces 0 = .ok (.aload_n 0, 1) := by decide +kernel
theorem dX1_changePlaces_1 : decode cX1_changePlaces 1 = .ok (.iload_n 1, 1) := by decide +kernel
theorem dX1_changePlaces_2 : decode cX1_changePlaces 2 = .ok (.invokevirtual 61, 3) := by decide +kernel
theorem dX1_changePlaces_5 : decode cX1_changePlaces 5 = .ok (.istore_n 3, 1) := by decide +kernel
theorem dX1_changePlaces_6 : decode cX1_changePlaces 6 = .ok (.aload_n 0, 1) := by decide +kernel
theorem dX1_changePlaces_7 : decode cX1_changePlaces 7 = .ok (.iload_n 2, 1) := by decide +kernel
theorem dX1_changePlaces_8 : decode cX1_changePlaces 8 = .ok (.invokevirtual 61, 3) := by decide +kernel
theorem dX1_changePlaces_11 : decode cX1_changePlaces 11 = .ok (.istore 4, 2) := by decide +kernel
theorem dX1_changePlaces_13 : decode cX1_changePlaces 13 = .ok (.iload_n 3, 1) := by decide +kernel
theorem dX1_changePlaces_14 : decode cX1_changePlaces 14 = .ok (.iconst (-1), 1) := by decide +kernel
theorem dX1_changePlaces_15 : decode cX1_changePlaces 15 = .ok (.if_icmp .eq 24, 3) := by decide +kernel
theorem dX1_changePlaces_18 : decode cX1_changePlaces 18 = .ok (.iload 4, 2) := by decide +kernel
theorem dX1_changePlaces_20 : decode cX1_changePlaces 20 = .ok (.iconst (-1), 1) := by decide +kernel
theorem dX1_changePlaces_21 : decode cX1_changePlaces 21 = .ok (.if_icmp .eq 18, 3) := by decide +kernel
theorem dX1_changePlaces_24 : decode cX1_changePlaces 24 = .ok (.aload_n 0, 1) := by decide +kernel
theorem dX1_changePlaces_25 : decode cX1_changePlaces 25 = .ok (.getfield 18, 3) := by decide +kernel
theorem dX1_changePlaces_28 : decode cX1_changePlaces 28 = .ok (.iload_n 3, 1) := by decide +kernel
theorem dX1_changePlaces_29 : decode cX1_changePlaces 29 = .ok (.iload_n 2, 1) := by decide +kernel
theorem dX1_changePlaces_30 : decode cX1_changePlaces 30 = .ok (.iastore, 1) := by decide +kernel
theorem dX1_changePlaces_31 : decode cX1_changePlaces 31 = .ok (.aload_n 0, 1) := by decide +kernel
theorem dX1_changePlaces_32 : decode cX1_changePlaces 32 = .ok (.getfield 18, 3) := by decide +kernel
theorem dX1_changePlaces_35 : decode cX1_changePlaces 35 = .ok (.iload 4, 2) := by decide +kernel
theorem dX1_changePlaces_37 : decode cX1_changePlaces 37 = .ok (.iload_n 1, 1) := by decide +kernel
theorem dX1_changePlaces_38 : decode cX1_changePlaces 38 = .ok (.iastore, 1) := by decide +kernel
theorem dX1_changePlaces_39 : decode cX1_changePlaces 39 = .ok (.return_, 1) := by decide +kernel
theorem dX1_standAs_0 : decode cX1_standAs 0 = .ok (.iconst 0, 1) := by decide +kernel
theorem dX1_standAs_1 : decode cX1_standAs 1 = .ok (.istore_n 3, 1) := by decide +kernel
theorem dX1_standAs_2 : decode cX1_standAs 2 = .ok (.iload_n 3, 1) := by decide +kernel
theorem dX1_standAs_3 : decode cX1_standAs 3 = .ok (.iload_n 2, 1) := by decide +kernel
theorem dX1_standAs_4 : decode cX1_standAs 4 = .ok (.if_icmp .ge 18, 3) := by decide +kernel
theorem dX1_standAs_7 : decode cX1_standAs 7 = .ok (.aload_n 0, 1) := by decide +kernel
theorem dX1_standAs_8 : decode cX1_standAs 8 = .ok (.getfield 18, 3) := by decide +kernel
theorem dX1_standAs_11 : decode cX1_standAs 11 = .ok (.iload_n 3, 1) := by decide +kernel
theorem dX1_standAs_12 : decode cX1_standAs 12 = .ok (.aload_n 1, 1) := by decide +kernel
theorem dX1_standAs_13 : decode cX1_standAs 13 = .ok (.iload_n 3, 1) := by decide +kernel
theorem dX1_standAs_14 : decode cX1_standAs 14 = .ok (.iaload, 1) := by decide +kernel
theorem dX1_standAs_15 : decode cX1_standAs 15 = .ok (.iastore, 1) := by decide +kernel
theorem dX1_standAs_16 : decode cX1_standAs 16 = .ok (.iinc 3 1, 3) := by decide +kernel
theorem dX1_standAs_19 : decode cX1_standAs 19 = .ok (.goto (-17), 3) := by decide +kernel
theorem dX1_standAs_22 : decode cX1_standAs 22 = .ok (.return_, 1) := by decide +kernel
theorem dX1_runOut_0 : decode cX1_runOut 0 = .ok (.iconst 0, 1) := by decide +kernel
theorem dX1_runOut_1 : decode cX1_runOut 1 = .ok (.istore_n 2, 1) := by decide +kernel
theorem dX1_runOut_2 : decode cX1_runOut 2 = .ok (.aload_n 0, 1) := by decide +kernel
theorem dX1_runOut_3 : decode cX1_runOut 3 = .ok (.getfield 33, 3) := by decide +kernel
theorem dX1_runOut_6 : decode cX1_runOut 6 = .ok (.ifCond .le 25, 3) := by decide +kernel
theorem dX1_runOut_9 : decode cX1_runOut 9 = .ok (.iload_n 2, 1) := by decide +kernel
theorem dX1_runOut_10 : decode cX1_runOut 10 = .ok (.bipush 30, 2) := by decide +kernel
theorem dX1_runOut_12 : decode cX1_runOut 12 = .ok (.if_icmp .ge 19, 3) := by decide +kernel
theorem dX1_runOut_15 : decode cX1_runOut 15 = .ok (.aload_n 0, 1) := by decide +kernel
theorem dX1_runOut_16 : decode cX1_runOut 16 = .ok (.aload_n 1, 1) := by decide +kernel
theorem dX1_runOut_17 : decode cX1_runOut 17 = .ok (.aload_n 1, 1) := by decide +kernel
theorem dX1_runOut_18 : decode cX1_runOut 18 = .ok (.getfield 64, 3) := by decide +kernel
theorem dX1_runOut_21 : decode cX1_runOut 21 = .ok (.invokevirtual 67, 3) := by decide +kernel
theorem dX1_runOut_24 : decode cX1_runOut 24 = .ok (.pop, 1) := by decide +kernel
theorem dX1_runOut_25 : decode cX1_runOut 25 = .ok (.iinc 2 1, 3) := by decide +kernel
theorem dX1_runOut_28 : decode cX1_runOut 28 = .ok (.goto (-26), 3) := by decide +kernel
theorem dX1_runOut_31 : decode cX1_runOut 31 = .ok (.iload_n 2, 1) := by decide +kernel
theorem dX1_runOut_32 : decode cX1_runOut 32 = .ok (.ireturn, 1) := by decide +kernel
theorem dX1_passMinute_0 : decode cX1_passMinute 0 = .ok (.aload_n 0, 1) := by decide +kernel
theorem dX1_passMinute_1 : decode cX1_passMinute 1 = .ok (.getfield 36, 3) := by decide +kernel
theorem dX1_passMinute_4 : decode cX1_passMinute 4 = .ok (.istore_n 3, 1) := by decide +kernel
theorem dX1_passMinute_5 : decode cX1_passMinute 5 = .ok (.iconst 0, 1) := by decide +kernel
theorem dX1_passMinute_6 : decode cX1_passMinute 6 = .ok (.istore 4, 2) := by decide +kernel
theorem dX1_passMinute_8 : decode cX1_passMinute 8 = .ok (.iload 4, 2) := by decide +kernel
theorem dX1_passMinute_10 : decode cX1_passMinute 10 = .ok (.iconst 1, 1) := by decide +kernel
theorem dX1_passMinute_11 : decode cX1_passMinute 11 = .ok (.iadd, 1) := by decide +kernel
theorem dX1_passMinute_12 : decode cX1_passMinute 12 = .ok (.aload_n 0, 1) := by decide +kernel
theorem dX1_passMinute_13 : decode cX1_passMinute 13 = .ok (.getfield 33, 3) := by decide +kernel
theorem dX1_passMinute_16 : decode cX1_passMinute 16 = .ok (.if_icmp .ge 16, 3) := by decide +kernel
theorem dX1_passMinute_19 : decode cX1_passMinute 19 = .ok (.aload_n 0, 1) := by decide +kernel
theorem dX1_passMinute_20 : decode cX1_passMinute 20 = .ok (.aload_n 1, 1) := by decide +kernel
theorem dX1_passMinute_21 : decode cX1_passMinute 21 = .ok (.iload 4, 2) := by decide +kernel
theorem dX1_passMinute_23 : decode cX1_passMinute 23 = .ok (.invokevirtual 71, 3) := by decide +kernel
theorem dX1_passMinute_26 : decode cX1_passMinute 26 = .ok (.iinc 4 2, 3) := by decide +kernel
theorem dX1_passMinute_29 : decode cX1_passMinute 29 = .ok (.goto (-21), 3) := by decide +kernel
theorem dX1_passMinute_32 : decode cX1_passMinute 32 = .ok (.aload_n 0, 1) := by decide +kernel
theorem dX1_passMinute_33 : decode cX1_passMinute 33 = .ok (.aload_n 1, 1) := by decide +kernel
theorem dX1_passMinute_34 : decode cX1_passMinute 34 = .ok (.invokevirtual 75, 3) := by decide +kernel
theorem dX1_passMinute_37 : decode cX1_passMinute 37 = .ok (.aload_n 0, 1) := by decide +kernel
theorem dX1_passMinute_38 : decode cX1_passMinute 38 = .ok (.aload_n 1, 1) := by decide +kernel
theorem dX1_passMinute_39 : decode cX1_passMinute 39 = .ok (.invokevirtual 79, 3) := by decide +kernel
theorem dX1_passMinute_42 : decode cX1_passMinute 42 = .ok (.aload_n 0, 1) := by decide +kernel
theorem dX1_passMinute_43 : decode cX1_passMinute 43 = .ok (.dup, 1) := by decide +kernel
theorem dX1_passMinute_44 : decode cX1_passMinute 44 = .ok (.getfield 42, 3) := by decide +kernel
theorem dX1_passMinute_47 : decode cX1_passMinute 47 = .ok (.iconst 1, 1) := by decide +kernel
theorem dX1_passMinute_48 : decode cX1_passMinute 48 = .ok (.iadd, 1) := by decide +kernel
theorem dX1_passMinute_49 : decode cX1_passMinute 49 = .ok (.putfield 42, 3) := by decide +kernel
theorem dX1_passMinute_52 : decode cX1_passMinute 52 = .ok (.iload_n 2, 1) := by decide +kernel
theorem dX1_passMinute_53 : decode cX1_passMinute 53 = .ok (.ifCond .le 30, 3) := by decide +kernel
theorem dX1_passMinute_56 : decode cX1_passMinute 56 = .ok (.aload_n 0, 1) := by decide +kernel
theorem dX1_passMinute_57 : decode cX1_passMinute 57 = .ok (.getfield 42, 3) := by decide +kernel
theorem dX1_passMinute_60 : decode cX1_passMinute 60 = .ok (.iload_n 2, 1) := by decide +kernel
theorem dX1_passMinute_61 : decode cX1_passMinute 61 = .ok (.irem, 1) := by decide +kernel
theorem dX1_passMinute_62 : decode cX1_passMinute 62 = .ok (.ifCond .ne 21, 3) := by decide +kernel
theorem dX1_passMinute_65 : decode cX1_passMinute 65 = .ok (.aload_n 0, 1) := by decide +kernel
theorem dX1_passMinute_66 : decode cX1_passMinute 66 = .ok (.getfield 33, 3) := by decide +kernel
theorem dX1_passMinute_69 : decode cX1_passMinute 69 = .ok (.ifCond .le 14, 3) := by decide +kernel
theorem dX1_passMinute_72 : decode cX1_passMinute 72 = .ok (.aload_n 0, 1) := by decide +kernel
theorem dX1_passMinute_73 : decode cX1_passMinute 73 = .ok (.aload_n 1, 1) := by decide +kernel
theorem dX1_passMinute_74 : decode cX1_passMinute 74 = .ok (.aload_n 0, 1) := by decide +kernel
theorem dX1_passMinute_75 : decode cX1_passMinute 75 = .ok (.getfield 18, 3) := by decide +kernel
theorem dX1_passMinute_78 : decode cX1_passMinute 78 = .ok (.iconst 0, 1) := by decide +kernel
theorem dX1_passMinute_79 : decode cX1_passMinute 79 = .ok (.iaload, 1) := by decide +kernel
theorem dX1_passMinute_80 : decode cX1_passMinute 80 = .ok (.invokevirtual 82, 3) := by decide +kernel
theorem dX1_passMinute_83 : decode cX1_passMinute 83 = .ok (.aload_n 0, 1) := by decide +kernel
theorem dX1_passMinute_84 : decode cX1_passMinute 84 = .ok (.getfield 36, 3) := by decide +kernel
theorem dX1_passMinute_87 : decode cX1_passMinute 87 = .ok (.iload_n 3, 1) := by decide +kernel
theorem dX1_passMinute_88 : decode cX1_passMinute 88 = .ok (.iconst (-1), 1) := by decide +kernel
theorem dX1_passMinute_89 : decode cX1_passMinute 89 = .ok (.ixor, 1) := by decide +kernel
theorem dX1_passMinute_90 : decode cX1_passMinute 90 = .ok (.iand, 1) := by decide +kernel
theorem dX1_passMinute_91 : decode cX1_passMinute 91 = .ok (.ireturn, 1) := by decide +kernel
theorem dX1_putThrough_0 : decode cX1_putThrough 0 = .ok (.aload_n 0, 1) := by decide +kernel
theorem dX1_putThrough_1 : decode cX1_putThrough 1 = .ok (.getfield 18, 3) := by decide +kernel
theorem dX1_putThrough_4 : decode cX1_putThrough 4 = .ok (.iload_n 2, 1) := by decide +kernel
theorem dX1_putThrough_5 : decode cX1_putThrough 5 = .ok (.iaload, 1) := by decide +kernel
theorem dX1_putThrough_6 : decode cX1_putThrough 6 = .ok (.istore_n 3, 1) := by decide +kernel
theorem dX1_putThrough_7 : decode cX1_putThrough 7 = .ok (.aload_n 0, 1) := by decide +kernel
theorem dX1_putThrough_8 : decode cX1_putThrough 8 = .ok (.getfield 18, 3) := by decide +kernel
theorem dX1_putThrough_11 : decode cX1_putThrough 11 = .ok (.iload_n 2, 1) := by decide +kernel
theorem dX1_putThrough_12 : decode cX1_putThrough 12 = .ok (.iconst 1, 1) := by decide +kernel
theorem dX1_putThrough_13 : decode cX1_putThrough 13 = .ok (.iadd, 1) := by decide +kernel
theorem dX1_putThrough_14 : decode cX1_putThrough 14 = .ok (.iaload, 1) := by decide +kernel
theorem dX1_putThrough_15 : decode cX1_putThrough 15 = .ok (.istore 4, 2) := by decide +kernel
theorem dX1_putThrough_17 : decode cX1_putThrough 17 = .ok (.iload_n 2, 1) := by decide +kernel
theorem dX1_putThrough_18 : decode cX1_putThrough 18 = .ok (.iconst 2, 1) := by decide +kernel
theorem dX1_putThrough_19 : decode cX1_putThrough 19 = .ok (.iadd, 1) := by decide +kernel
theorem dX1_putThrough_20 : decode cX1_putThrough 20 = .ok (.aload_n 0, 1) := by decide +kernel
theorem dX1_putThrough_21 : decode cX1_putThrough 21 = .ok (.getfield 33, 3) := by decide +kernel
theorem dX1_putThrough_24 : decode cX1_putThrough 24 = .ok (.if_icmp .ge 14, 3) := by decide +kernel
theorem dX1_putThrough_27 : decode cX1_putThrough 27 = .ok (.aload_n 0, 1) := by decide +kernel
theorem dX1_putThrough_28 : decode cX1_putThrough 28 = .ok (.getfield 18, 3) := by decide +kernel
theorem dX1_putThrough_31 : decode cX1_putThrough 31 = .ok (.iload_n 2, 1) := by decide +kernel
theorem dX1_putThrough_32 : decode cX1_putThrough 32 = .ok (.iconst 2, 1) := by decide +kernel
theorem dX1_putThrough_33 : decode cX1_putThrough 33 = .ok (.iadd, 1) := by decide +kernel
theorem dX1_putThrough_34 : decode cX1_putThrough 34 = .ok (.iaload, 1) := by decide +kernel
theorem dX1_putThrough_35 : decode cX1_putThrough 35 = .ok (.goto 4, 3) := by decide +kernel
theorem dX1_putThrough_38 : decode cX1_putThrough 38 = .ok (.iconst (-1), 1) := by decide +kernel
theorem dX1_putThrough_39 : decode cX1_putThrough 39 = .ok (.istore 5, 2) := by decide +kernel
theorem dX1_putThrough_41 : decode cX1_putThrough 41 = .ok (.aload_n 0, 1) := by decide +kernel
theorem dX1_putThrough_42 : decode cX1_putThrough 42 = .ok (.getfield 21, 3) := by decide +kernel
theorem dX1_putThrough_45 : decode cX1_putThrough 45 = .ok (.iload_n 3, 1) := by decide +kernel
theorem dX1_putThrough_46 : decode cX1_putThrough 46 = .ok (.bipush 6, 2) := by decide +kernel
theorem dX1_putThrough_48 : decode cX1_putThrough 48 = .ok (.imul, 1) := by decide +kernel
theorem dX1_putThrough_49 : decode cX1_putThrough 49 = .ok (.iload 4, 2) := by decide +kernel
theorem dX1_putThrough_51 : decode cX1_putThrough 51 = .ok (.iadd, 1) := by decide +kernel
theorem dX1_putThrough_52 : decode cX1_putThrough 52 = .ok (.iaload, 1) := by decide +kernel
theorem dX1_putThrough_53 : decode cX1_putThrough 53 = .ok (.iconst 1, 1) := by decide +kernel
theorem dX1_putThrough_54 : decode cX1_putThrough 54 = .ok (.iadd, 1) := by decide +kernel
theorem dX1_putThrough_55 : decode cX1_putThrough 55 = .ok (.istore 6, 2) := by decide +kernel
theorem dX1_putThrough_57 : decode cX1_putThrough 57 = .ok (.aload_n 0, 1) := by decide +kernel
theorem dX1_putThrough_58 : decode cX1_putThrough 58 = .ok (.getfield 21, 3) := by decide +kernel
theorem dX1_putThrough_61 : decode cX1_putThrough 61 = .ok (.iload_n 3, 1) := by decide +kernel
theorem dX1_putThrough_62 : decode cX1_putThrough 62 = .ok (.bipush 6, 2) := by decide +kernel
theorem dX1_putThrough_64 : decode cX1_putThrough 64 = .ok (.imul, 1) := by decide +kernel
theorem dX1_putThrough_65 : decode cX1_putThrough 65 = .ok (.iload 4, 2) := by decide +kernel
theorem dX1_putThrough_67 : decode cX1_putThrough 67 = .ok (.iadd, 1) := by decide +kernel
theorem dX1_putThrough_68 : decode cX1_putThrough 68 = .ok (.iload 6, 2) := by decide +kernel
theorem dX1_putThrough_70 : decode cX1_putThrough 70 = .ok (.iastore, 1) := by decide +kernel
theorem dX1_putThrough_71 : decode cX1_putThrough 71 = .ok (.aload_n 0, 1) := by decide +kernel
theorem dX1_putThrough_72 : decode cX1_putThrough 72 = .ok (.getfield 21, 3) := by decide +kernel
theorem dX1_putThrough_75 : decode cX1_putThrough 75 = .ok (.iload 4, 2) := by decide +kernel
theorem dX1_putThrough_77 : decode cX1_putThrough 77 = .ok (.bipush 6, 2) := by decide +kernel
theorem dX1_putThrough_79 : decode cX1_putThrough 79 = .ok (.imul, 1) := by decide +kernel
theorem dX1_putThrough_80 : decode cX1_putThrough 80 = .ok (.iload_n 3, 1) := by decide +kernel
theorem dX1_putThrough_81 : decode cX1_putThrough 81 = .ok (.iadd, 1) := by decide +kernel
theorem dX1_putThrough_82 : decode cX1_putThrough 82 = .ok (.iload 6, 2) := by decide +kernel
theorem dX1_putThrough_84 : decode cX1_putThrough 84 = .ok (.iastore, 1) := by decide +kernel
theorem dX1_putThrough_85 : decode cX1_putThrough 85 = .ok (.aload_n 0, 1) := by decide +kernel
theorem dX1_putThrough_86 : decode cX1_putThrough 86 = .ok (.getfield 9, 3) := by decide +kernel
theorem dX1_putThrough_89 : decode cX1_putThrough 89 = .ok (.iload 4, 2) := by decide +kernel
theorem dX1_putThrough_91 : decode cX1_putThrough 91 = .ok (.dup2, 1) := by decide +kernel
theorem dX1_putThrough_92 : decode cX1_putThrough 92 = .ok (.iaload, 1) := by decide +kernel
theorem dX1_putThrough_93 : decode cX1_putThrough 93 = .ok (.aload_n 0, 1) := by decide +kernel
theorem dX1_putThrough_94 : decode cX1_putThrough 94 = .ok (.aload_n 1, 1) := by decide +kernel
theorem dX1_putThrough_95 : decode cX1_putThrough 95 = .ok (.iload_n 3, 1) := by decide +kernel
theorem dX1_putThrough_96 : decode cX1_putThrough 96 = .ok (.iload 4, 2) := by decide +kernel
theorem dX1_putThrough_98 : decode cX1_putThrough 98 = .ok (.iload 5, 2) := by decide +kernel
theorem dX1_putThrough_100 : decode cX1_putThrough 100 = .ok (.iload 6, 2) := by decide +kernel
theorem dX1_putThrough_102 : decode cX1_putThrough 102 = .ok (.invokevirtual 85, 3) := by decide +kernel
theorem dX1_putThrough_105 : decode cX1_putThrough 105 = .ok (.ior, 1) := by decide +kernel
theorem dX1_putThrough_106 : decode cX1_putThrough 106 = .ok (.iastore, 1) := by decide +kernel
theorem dX1_putThrough_107 : decode cX1_putThrough 107 = .ok (.aload_n 0, 1) := by decide +kernel
theorem dX1_putThrough_108 : decode cX1_putThrough 108 = .ok (.getfield 9, 3) := by decide +kernel
theorem dX1_putThrough_111 : decode cX1_putThrough 111 = .ok (.iload_n 3, 1) := by decide +kernel
theorem dX1_putThrough_112 : decode cX1_putThrough 112 = .ok (.dup2, 1) := by decide +kernel
theorem dX1_putThrough_113 : decode cX1_putThrough 113 = .ok (.iaload, 1) := by decide +kernel
theorem dX1_putThrough_114 : decode cX1_putThrough 114 = .ok (.aload_n 0, 1) := by decide +kernel
theorem dX1_putThrough_115 : decode cX1_putThrough 115 = .ok (.aload_n 1, 1) := by decide +kernel
theorem dX1_putThrough_116 : decode cX1_putThrough 116 = .ok (.iload 4, 2) := by decide +kernel
theorem dX1_putThrough_118 : decode cX1_putThrough 118 = .ok (.iload_n 3, 1) := by decide +kernel
theorem dX1_putThrough_119 : decode cX1_putThrough 119 = .ok (.iload 5, 2) := by decide +kernel
theorem dX1_putThrough_121 : decode cX1_putThrough 121 = .ok (.iload 6, 2) := by decide +kernel
theorem dX1_putThrough_123 : decode cX1_putThrough 123 = .ok (.invokevirtual 85, 3) := by decide +kernel
theorem dX1_putThrough_126 : decode cX1_putThrough 126 = .ok (.ior, 1) := by decide +kernel
theorem dX1_putThrough_127 : decode cX1_putThrough 127 = .ok (.iastore, 1) := by decide +kernel
theorem dX1_putThrough_128 : decode cX1_putThrough 128 = .ok (.return_, 1) := by decide +kernel
theorem dX1_heard_0 : decode cX1_heard 0 = .ok (.aload_n 0, 1) := by decide +kernel
theorem dX1_heard_1 : decode cX1_heard 1 = .ok (.getfield 9, 3) := by decide +kernel
theorem dX1_heard_4 : decode cX1_heard 4 = .ok (.iload_n 2, 1) := by decide +kernel
theorem dX1_heard_5 : decode cX1_heard 5 = .ok (.iaload, 1) := by decide +kernel
theorem dX1_heard_6 : decode cX1_heard 6 = .ok (.istore 6, 2) := by decide +kernel
theorem dX1_heard_8 : decode cX1_heard 8 = .ok (.aload_n 1, 1) := by decide +kernel
theorem dX1_heard_9 : decode cX1_heard 9 = .ok (.getfield 89, 3) := by decide +kernel
theorem dX1_heard_12 : decode cX1_heard 12 = .ok (.iload_n 2, 1) := by decide +kernel
theorem dX1_heard_13 : decode cX1_heard 13 = .ok (.iaload, 1) := by decide +kernel
theorem dX1_heard_14 : decode cX1_heard 14 = .ok (.iconst 1, 1) := by decide +kernel
theorem dX1_heard_15 : decode cX1_heard 15 = .ok (.if_icmp .ne 19, 3) := by decide +kernel
theorem dX1_heard_18 : decode cX1_heard 18 = .ok (.iload 6, 2) := by decide +kernel
theorem dX1_heard_20 : decode cX1_heard 20 = .ok (.iconst 1, 1) := by decide +kernel
theorem dX1_heard_21 : decode cX1_heard 21 = .ok (.aload_n 1, 1) := by decide +kernel
theorem dX1_heard_22 : decode cX1_heard 22 = .ok (.getfield 92, 3) := by decide +kernel
theorem dX1_heard_25 : decode cX1_heard 25 = .ok (.iload_n 3, 1) := by decide +kernel
theorem dX1_heard_26 : decode cX1_heard 26 = .ok (.iaload, 1) := by decide +kernel
theorem dX1_heard_27 : decode cX1_heard 27 = .ok (.ishl, 1) := by decide +kernel
theorem dX1_heard_28 : decode cX1_heard 28 = .ok (.iand, 1) := by decide +kernel
theorem dX1_heard_29 : decode cX1_heard 29 = .ok (.istore 6, 2) := by decide +kernel
theorem dX1_heard_31 : decode cX1_heard 31 = .ok (.goto 31, 3) := by decide +kernel
theorem dX1_heard_34 : decode cX1_heard 34 = .ok (.aload_n 1, 1) := by decide +kernel
theorem dX1_heard_35 : decode cX1_heard 35 = .ok (.getfield 89, 3) := by decide +kernel
theorem dX1_heard_38 : decode cX1_heard 38 = .ok (.iload_n 2, 1) := by decide +kernel
theorem dX1_heard_39 : decode cX1_heard 39 = .ok (.iaload, 1) := by decide +kernel
theorem dX1_heard_40 : decode cX1_heard 40 = .ok (.iconst 2, 1) := by decide +kernel
theorem dX1_heard_41 : decode cX1_heard 41 = .ok (.if_icmp .ne 21, 3) := by decide +kernel
theorem dX1_heard_44 : decode cX1_heard 44 = .ok (.iload 4, 2) := by decide +kernel
theorem dX1_heard_46 : decode cX1_heard 46 = .ok (.iconst (-1), 1) := by decide +kernel
theorem dX1_heard_47 : decode cX1_heard 47 = .ok (.if_icmp .eq 15, 3) := by decide +kernel
theorem dX1_heard_50 : decode cX1_heard 50 = .ok (.iload 6, 2) := by decide +kernel
theorem dX1_heard_52 : decode cX1_heard 52 = .ok (.aload_n 0, 1) := by decide +kernel
theorem dX1_heard_53 : decode cX1_heard 53 = .ok (.getfield 9, 3) := by decide +kernel
theorem dX1_heard_56 : decode cX1_heard 56 = .ok (.iload 4, 2) := by decide +kernel
theorem dX1_heard_58 : decode cX1_heard 58 = .ok (.iaload, 1) := by decide +kernel
theorem dX1_heard_59 : decode cX1_heard 59 = .ok (.ior, 1) := by decide +kernel
theorem dX1_heard_60 : decode cX1_heard 60 = .ok (.istore 6, 2) := by decide +kernel
theorem dX1_heard_62 : decode cX1_heard 62 = .ok (.iload 6, 2) := by decide +kernel
theorem dX1_heard_64 : decode cX1_heard 64 = .ok (.aload_n 0, 1) := by decide +kernel
theorem dX1_heard_65 : decode cX1_heard 65 = .ok (.getfield 9, 3) := by decide +kernel
theorem dX1_heard_68 : decode cX1_heard 68 = .ok (.iload_n 3, 1) := by decide +kernel
theorem dX1_heard_69 : decode cX1_heard 69 = .ok (.iaload, 1) := by decide +kernel
theorem dX1_heard_70 : decode cX1_heard 70 = .ok (.iconst (-1), 1) := by decide +kernel
theorem dX1_heard_71 : decode cX1_heard 71 = .ok (.ixor, 1) := by decide +kernel
theorem dX1_heard_72 : decode cX1_heard 72 = .ok (.iand, 1) := by decide +kernel
theorem dX1_heard_73 : decode cX1_heard 73 = .ok (.istore 7, 2) := by decide +kernel
theorem dX1_heard_75 : decode cX1_heard 75 = .ok (.iload 7, 2) := by decide +kernel
theorem dX1_heard_77 : decode cX1_heard 77 = .ok (.ifCond .eq 13, 3) := by decide +kernel
theorem dX1_heard_80 : decode cX1_heard 80 = .ok (.aload_n 1, 1) := by decide +kernel
theorem dX1_heard_81 : decode cX1_heard 81 = .ok (.getfield 89, 3) := by decide +kernel
theorem dX1_heard_84 : decode cX1_heard 84 = .ok (.iload_n 3, 1) := by decide +kernel
theorem dX1_heard_85 : decode cX1_heard 85 = .ok (.iaload, 1) := by decide +kernel
theorem dX1_heard_86 : decode cX1_heard 86 = .ok (.iconst 3, 1) := by decide +kernel
theorem dX1_heard_87 : decode cX1_heard 87 = .ok (.if_icmp .ne 5, 3) := by decide +kernel
theorem dX1_heard_90 : decode cX1_heard 90 = .ok (.iconst 0, 1) := by decide +kernel
theorem dX1_heard_91 : decode cX1_heard 91 = .ok (.ireturn, 1) := by decide +kernel
theorem dX1_heard_92 : decode cX1_heard 92 = .ok (.aload_n 0, 1) := by decide +kernel
theorem dX1_heard_93 : decode cX1_heard 93 = .ok (.getfield 9, 3) := by decide +kernel
theorem dX1_heard_96 : decode cX1_heard 96 = .ok (.iload_n 3, 1) := by decide +kernel
theorem dX1_heard_97 : decode cX1_heard 97 = .ok (.iaload, 1) := by decide +kernel
theorem dX1_heard_98 : decode cX1_heard 98 = .ok (.invokestatic 51, 3) := by decide +kernel
theorem dX1_heard_101 : decode cX1_heard 101 = .ok (.istore 8, 2) := by decide +kernel
theorem dX1_heard_103 : decode cX1_heard 103 = .ok (.aload_n 0, 1) := by decide +kernel
theorem dX1_heard_104 : decode cX1_heard 104 = .ok (.getfield 9, 3) := by decide +kernel
theorem dX1_heard_107 : decode cX1_heard 107 = .ok (.iload_n 2, 1) := by decide +kernel
theorem dX1_heard_108 : decode cX1_heard 108 = .ok (.iaload, 1) := by decide +kernel
theorem dX1_heard_109 : decode cX1_heard 109 = .ok (.invokestatic 51, 3) := by decide +kernel
theorem dX1_heard_112 : decode cX1_heard 112 = .ok (.istore 9, 2) := by decide +kernel
theorem dX1_heard_114 : decode cX1_heard 114 = .ok (.aload_n 1, 1) := by decide +kernel
theorem dX1_heard_115 : decode cX1_heard 115 = .ok (.getfield 95, 3) := by decide +kernel
theorem dX1_heard_118 : decode cX1_heard 118 = .ok (.aload_n 0, 1) := by decide +kernel
theorem dX1_heard_119 : decode cX1_heard 119 = .ok (.getfield 15, 3) := by decide +kernel
theorem dX1_heard_122 : decode cX1_heard 122 = .ok (.iload_n 3, 1) := by decide +kernel
theorem dX1_heard_123 : decode cX1_heard 123 = .ok (.iaload, 1) := by decide +kernel
theorem dX1_heard_124 : decode cX1_heard 124 = .ok (.iload 5, 2) := by decide +kernel
theorem dX1_heard_126 : decode cX1_heard 126 = .ok (.iload 8, 2) := by decide +kernel
theorem dX1_heard_128 : decode cX1_heard 128 = .ok (.iload 9, 2) := by decide +kernel
theorem dX1_heard_130 : decode cX1_heard 130 = .ok (.invokevirtual 99, 3) := by decide +kernel
theorem dX1_heard_133 : decode cX1_heard 133 = .ok (.ifCond .eq 8, 3) := by decide +kernel
theorem dX1_heard_136 : decode cX1_heard 136 = .ok (.iload 7, 2) := by decide +kernel
theorem dX1_heard_138 : decode cX1_heard 138 = .ok (.goto 4, 3) := by decide +kernel
theorem dX1_heard_141 : decode cX1_heard 141 = .ok (.iconst 0, 1) := by decide +kernel
theorem dX1_heard_142 : decode cX1_heard 142 = .ok (.ireturn, 1) := by decide +kernel
theorem dX1_settleWhoKnow_0 : decode cX1_settleWhoKnow 0 = .ok (.iconst 0, 1) := by decide +kernel
theorem dX1_settleWhoKnow_1 : decode cX1_settleWhoKnow 1 = .ok (.istore_n 2, 1) := by decide +kernel
theorem dX1_settleWhoKnow_2 : decode cX1_settleWhoKnow 2 = .ok (.iconst 0, 1) := by decide +kernel
theorem dX1_settleWhoKnow_3 : decode cX1_settleWhoKnow 3 = .ok (.istore_n 3, 1) := by decide +kernel
theorem dX1_settleWhoKnow_4 : decode cX1_settleWhoKnow 4 = .ok (.iload_n 3, 1) := by decide +kernel
theorem dX1_settleWhoKnow_5 : decode cX1_settleWhoKnow 5 = .ok (.aload_n 0, 1) := by decide +kernel
theorem dX1_settleWhoKnow_6 : decode cX1_settleWhoKnow 6 = .ok (.getfield 33, 3) := by decide +kernel
theorem dX1_settleWhoKnow_9 : decode cX1_settleWhoKnow 9 = .ok (.if_icmp .ge 73, 3) := by decide +kernel
theorem dX1_settleWhoKnow_12 : decode cX1_settleWhoKnow 12 = .ok (.aload_n 0, 1) := by decide +kernel
theorem dX1_settleWhoKnow_13 : decode cX1_settleWhoKnow 13 = .ok (.getfield 18, 3) := by decide +kernel
theorem dX1_settleWhoKnow_16 : decode cX1_settleWhoKnow 16 = .ok (.iload_n 3, 1) := by decide +kernel
theorem dX1_settleWhoKnow_17 : decode cX1_settleWhoKnow 17 = .ok (.iaload, 1) := by decide +kernel
theorem dX1_settleWhoKnow_18 : decode cX1_settleWhoKnow 18 = .ok (.istore 4, 2) := by decide +kernel
theorem dX1_settleWhoKnow_20 : decode cX1_settleWhoKnow 20 = .ok (.aload_n 0, 1) := by decide +kernel
theorem dX1_settleWhoKnow_21 : decode cX1_settleWhoKnow 21 = .ok (.getfield 9, 3) := by decide +kernel
theorem dX1_settleWhoKnow_24 : decode cX1_settleWhoKnow 24 = .ok (.iload 4, 2) := by decide +kernel
theorem dX1_settleWhoKnow_26 : decode cX1_settleWhoKnow 26 = .ok (.iaload, 1) := by decide +kernel
theorem dX1_settleWhoKnow_27 : decode cX1_settleWhoKnow 27 = .ok (.aload_n 1, 1) := by decide +kernel
theorem dX1_settleWhoKnow_28 : decode cX1_settleWhoKnow 28 = .ok (.getfield 92, 3) := by decide +kernel
theorem dX1_settleWhoKnow_31 : decode cX1_settleWhoKnow 31 = .ok (.iload 4, 2) := by decide +kernel
theorem dX1_settleWhoKnow_33 : decode cX1_settleWhoKnow 33 = .ok (.iaload, 1) := by decide +kernel
theorem dX1_settleWhoKnow_34 : decode cX1_settleWhoKnow 34 = .ok (.ishr, 1) := by decide +kernel
theorem dX1_settleWhoKnow_35 : decode cX1_settleWhoKnow 35 = .ok (.iconst 1, 1) := by decide +kernel
theorem dX1_settleWhoKnow_36 : decode cX1_settleWhoKnow 36 = .ok (.iand, 1) := by decide +kernel
theorem dX1_settleWhoKnow_37 : decode cX1_settleWhoKnow 37 = .ok (.iconst 1, 1) := by decide +kernel
theorem dX1_settleWhoKnow_38 : decode cX1_settleWhoKnow 38 = .ok (.if_icmp .ne 27, 3) := by decide +kernel
theorem dX1_settleWhoKnow_41 : decode cX1_settleWhoKnow 41 = .ok (.aload_n 0, 1) := by decide +kernel
theorem dX1_settleWhoKnow_42 : decode cX1_settleWhoKnow 42 = .ok (.dup, 1) := by decide +kernel
theorem dX1_settleWhoKnow_43 : decode cX1_settleWhoKnow 43 = .ok (.getfield 36, 3) := by decide +kernel
theorem dX1_settleWhoKnow_46 : decode cX1_settleWhoKnow 46 = .ok (.iconst 1, 1) := by decide +kernel
theorem dX1_settleWhoKnow_47 : decode cX1_settleWhoKnow 47 = .ok (.iload 4, 2) := by decide +kernel
theorem dX1_settleWhoKnow_49 : decode cX1_settleWhoKnow 49 = .ok (.ishl, 1) := by decide +kernel
theorem dX1_settleWhoKnow_50 : decode cX1_settleWhoKnow 50 = .ok (.ior, 1) := by decide +kernel
theorem dX1_settleWhoKnow_51 : decode cX1_settleWhoKnow 51 = .ok (.putfield 36, 3) := by decide +kernel
theorem dX1_settleWhoKnow_54 : decode cX1_settleWhoKnow 54 = .ok (.aload_n 0, 1) := by decide +kernel
theorem dX1_settleWhoKnow_55 : decode cX1_settleWhoKnow 55 = .ok (.getfield 15, 3) := by decide +kernel
theorem dX1_settleWhoKnow_58 : decode cX1_settleWhoKnow 58 = .ok (.iload 4, 2) := by decide +kernel
theorem dX1_settleWhoKnow_60 : decode cX1_settleWhoKnow 60 = .ok (.iconst 0, 1) := by decide +kernel
theorem dX1_settleWhoKnow_61 : decode cX1_settleWhoKnow 61 = .ok (.iastore, 1) := by decide +kernel
theorem dX1_settleWhoKnow_62 : decode cX1_settleWhoKnow 62 = .ok (.goto 14, 3) := by decide +kernel
theorem dX1_settleWhoKnow_65 : decode cX1_settleWhoKnow 65 = .ok (.aload_n 0, 1) := by decide +kernel
theorem dX1_settleWhoKnow_66 : decode cX1_settleWhoKnow 66 = .ok (.getfield 18, 3) := by decide +kernel
theorem dX1_settleWhoKnow_69 : decode cX1_settleWhoKnow 69 = .ok (.iload_n 2, 1) := by decide +kernel
theorem dX1_settleWhoKnow_70 : decode cX1_settleWhoKnow 70 = .ok (.iload 4, 2) := by decide +kernel
theorem dX1_settleWhoKnow_72 : decode cX1_settleWhoKnow 72 = .ok (.iastore, 1) := by decide +kernel
theorem dX1_settleWhoKnow_73 : decode cX1_settleWhoKnow 73 = .ok (.iinc 2 1, 3) := by decide +kernel
theorem dX1_settleWhoKnow_76 : decode cX1_settleWhoKnow 76 = .ok (.iinc 3 1, 3) := by decide +kernel
theorem dX1_settleWhoKnow_79 : decode cX1_settleWhoKnow 79 = .ok (.goto (-75), 3) := by decide +kernel
theorem dX1_settleWhoKnow_82 : decode cX1_settleWhoKnow 82 = .ok (.aload_n 0, 1) := by decide +kernel
theorem dX1_settleWhoKnow_83 : decode cX1_settleWhoKnow 83 = .ok (.iload_n 2, 1) := by decide +kernel
theorem dX1_settleWhoKnow_84 : decode cX1_settleWhoKnow 84 = .ok (.putfield 33, 3) := by decide +kernel
theorem dX1_settleWhoKnow_87 : decode cX1_settleWhoKnow 87 = .ok (.return_, 1) := by decide +kernel
theorem dX1_holdLonger_0 : decode cX1_holdLonger 0 = .ok (.iconst 0, 1) := by decide +kernel
theorem dX1_holdLonger_1 : decode cX1_holdLonger 1 = .ok (.istore_n 2, 1) := by decide +kernel
theorem dX1_holdLonger_2 : decode cX1_holdLonger 2 = .ok (.iconst 0, 1) := by decide +kernel
theorem dX1_holdLonger_3 : decode cX1_holdLonger 3 = .ok (.istore_n 3, 1) := by decide +kernel
theorem dX1_holdLonger_4 : decode cX1_holdLonger 4 = .ok (.iload_n 3, 1) := by decide +kernel
theorem dX1_holdLonger_5 : decode cX1_holdLonger 5 = .ok (.aload_n 0, 1) := by decide +kernel
theorem dX1_holdLonger_6 : decode cX1_holdLonger 6 = .ok (.getfield 33, 3) := by decide +kernel
theorem dX1_holdLonger_9 : decode cX1_holdLonger 9 = .ok (.if_icmp .ge 67, 3) := by decide +kernel
theorem dX1_holdLonger_12 : decode cX1_holdLonger 12 = .ok (.aload_n 0, 1) := by decide +kernel
theorem dX1_holdLonger_13 : decode cX1_holdLonger 13 = .ok (.getfield 18, 3) := by decide +kernel
theorem dX1_holdLonger_16 : decode cX1_holdLonger 16 = .ok (.iload_n 3, 1) := by decide +kernel
theorem dX1_holdLonger_17 : decode cX1_holdLonger 17 = .ok (.iaload, 1) := by decide +kernel
theorem dX1_holdLonger_18 : decode cX1_holdLonger 18 = .ok (.istore 4, 2) := by decide +kernel
theorem dX1_holdLonger_20 : decode cX1_holdLonger 20 = .ok (.aload_n 0, 1) := by decide +kernel
theorem dX1_holdLonger_21 : decode cX1_holdLonger 21 = .ok (.getfield 15, 3) := by decide +kernel
theorem dX1_holdLonger_24 : decode cX1_holdLonger 24 = .ok (.iload 4, 2) := by decide +kernel
theorem dX1_holdLonger_26 : decode cX1_holdLonger 26 = .ok (.dup2, 1) := by decide +kernel
theorem dX1_holdLonger_27 : decode cX1_holdLonger 27 = .ok (.iaload, 1) := by decide +kernel
theorem dX1_holdLonger_28 : decode cX1_holdLonger 28 = .ok (.iconst 1, 1) := by decide +kernel
theorem dX1_holdLonger_29 : decode cX1_holdLonger 29 = .ok (.iadd, 1) := by decide +kernel
theorem dX1_holdLonger_30 : decode cX1_holdLonger 30 = .ok (.iastore, 1) := by decide +kernel
theorem dX1_holdLonger_31 : decode cX1_holdLonger 31 = .ok (.aload_n 0, 1) := by decide +kernel
theorem dX1_holdLonger_32 : decode cX1_holdLonger 32 = .ok (.getfield 15, 3) := by decide +kernel
theorem dX1_holdLonger_35 : decode cX1_holdLonger 35 = .ok (.iload 4, 2) := by decide +kernel
theorem dX1_holdLonger_37 : decode cX1_holdLonger 37 = .ok (.iaload, 1) := by decide +kernel
theorem dX1_holdLonger_38 : decode cX1_holdLonger 38 = .ok (.aload_n 1, 1) := by decide +kernel
theorem dX1_holdLonger_39 : decode cX1_holdLonger 39 = .ok (.getfield 105, 3) := by decide +kernel
theorem dX1_holdLonger_42 : decode cX1_holdLonger 42 = .ok (.iload 4, 2) := by decide +kernel
theorem dX1_holdLonger_44 : decode cX1_holdLonger 44 = .ok (.iaload, 1) := by decide +kernel
theorem dX1_holdLonger_45 : decode cX1_holdLonger 45 = .ok (.if_icmp .lt 14, 3) := by decide +kernel
theorem dX1_holdLonger_48 : decode cX1_holdLonger 48 = .ok (.aload_n 0, 1) := by decide +kernel
theorem dX1_holdLonger_49 : decode cX1_holdLonger 49 = .ok (.getfield 15, 3) := by decide +kernel
theorem dX1_holdLonger_52 : decode cX1_holdLonger 52 = .ok (.iload 4, 2) := by decide +kernel
theorem dX1_holdLonger_54 : decode cX1_holdLonger 54 = .ok (.iconst 0, 1) := by decide +kernel
theorem dX1_holdLonger_55 : decode cX1_holdLonger 55 = .ok (.iastore, 1) := by decide +kernel
theorem dX1_holdLonger_56 : decode cX1_holdLonger 56 = .ok (.goto 14, 3) := by decide +kernel
theorem dX1_holdLonger_59 : decode cX1_holdLonger 59 = .ok (.aload_n 0, 1) := by decide +kernel
theorem dX1_holdLonger_60 : decode cX1_holdLonger 60 = .ok (.getfield 18, 3) := by decide +kernel
theorem dX1_holdLonger_63 : decode cX1_holdLonger 63 = .ok (.iload_n 2, 1) := by decide +kernel
theorem dX1_holdLonger_64 : decode cX1_holdLonger 64 = .ok (.iload 4, 2) := by decide +kernel
theorem dX1_holdLonger_66 : decode cX1_holdLonger 66 = .ok (.iastore, 1) := by decide +kernel
theorem dX1_holdLonger_67 : decode cX1_holdLonger 67 = .ok (.iinc 2 1, 3) := by decide +kernel
theorem dX1_holdLonger_70 : decode cX1_holdLonger 70 = .ok (.iinc 3 1, 3) := by decide +kernel
theorem dX1_holdLonger_73 : decode cX1_holdLonger 73 = .ok (.goto (-69), 3) := by decide +kernel
theorem dX1_holdLonger_76 : decode cX1_holdLonger 76 = .ok (.aload_n 0, 1) := by decide +kernel
theorem dX1_holdLonger_77 : decode cX1_holdLonger 77 = .ok (.iload_n 2, 1) := by decide +kernel
theorem dX1_holdLonger_78 : decode cX1_holdLonger 78 = .ok (.putfield 33, 3) := by decide +kernel
theorem dX1_holdLonger_81 : decode cX1_holdLonger 81 = .ok (.return_, 1) := by decide +kernel
theorem dX1_takeUp_0 : decode cX1_takeUp 0 = .ok (.aload_n 0, 1) := by decide +kernel
theorem dX1_takeUp_1 : decode cX1_takeUp 1 = .ok (.getfield 9, 3) := by decide +kernel
theorem dX1_takeUp_4 : decode cX1_takeUp 4 = .ok (.iload_n 2, 1) := by decide +kernel
theorem dX1_takeUp_5 : decode cX1_takeUp 5 = .ok (.dup2, 1) := by decide +kernel
theorem dX1_takeUp_6 : decode cX1_takeUp 6 = .ok (.iaload, 1) := by decide +kernel
theorem dX1_takeUp_7 : decode cX1_takeUp 7 = .ok (.iconst 1, 1) := by decide +kernel
theorem dX1_takeUp_8 : decode cX1_takeUp 8 = .ok (.aload_n 1, 1) := by decide +kernel
theorem dX1_takeUp_9 : decode cX1_takeUp 9 = .ok (.getfield 92, 3) := by decide +kernel
theorem dX1_takeUp_12 : decode cX1_takeUp 12 = .ok (.iload_n 2, 1) := by decide +kernel
theorem dX1_takeUp_13 : decode cX1_takeUp 13 = .ok (.iaload, 1) := by decide +kernel
theorem dX1_takeUp_14 : decode cX1_takeUp 14 = .ok (.ishl, 1) := by decide +kernel
theorem dX1_takeUp_15 : decode cX1_takeUp 15 = .ok (.ior, 1) := by decide +kernel
theorem dX1_takeUp_16 : decode cX1_takeUp 16 = .ok (.iastore, 1) := by decide +kernel
theorem dX1_takeUp_17 : decode cX1_takeUp 17 = .ok (.aload_n 0, 1) := by decide +kernel
theorem dX1_takeUp_18 : decode cX1_takeUp 18 = .ok (.dup, 1) := by decide +kernel
theorem dX1_takeUp_19 : decode cX1_takeUp 19 = .ok (.getfield 36, 3) := by decide +kernel
theorem dX1_takeUp_22 : decode cX1_takeUp 22 = .ok (.iconst 1, 1) := by decide +kernel
theorem dX1_takeUp_23 : decode cX1_takeUp 23 = .ok (.iload_n 2, 1) := by decide +kernel
theorem dX1_takeUp_24 : decode cX1_takeUp 24 = .ok (.ishl, 1) := by decide +kernel
theorem dX1_takeUp_25 : decode cX1_takeUp 25 = .ok (.ior, 1) := by decide +kernel
theorem dX1_takeUp_26 : decode cX1_takeUp 26 = .ok (.putfield 36, 3) := by decide +kernel
theorem dX1_takeUp_29 : decode cX1_takeUp 29 = .ok (.aload_n 0, 1) := by decide +kernel
theorem dX1_takeUp_30 : decode cX1_takeUp 30 = .ok (.dup, 1) := by decide +kernel
theorem dX1_takeUp_31 : decode cX1_takeUp 31 = .ok (.getfield 39, 3) := by decide +kernel
theorem dX1_takeUp_34 : decode cX1_takeUp 34 = .ok (.iconst 1, 1) := by decide +kernel
theorem dX1_takeUp_35 : decode cX1_takeUp 35 = .ok (.iload_n 2, 1) := by decide +kernel
theorem dX1_takeUp_36 : decode cX1_takeUp 36 = .ok (.ishl, 1) := by decide +kernel
theorem dX1_takeUp_37 : decode cX1_takeUp 37 = .ok (.ior, 1) := by decide +kernel
theorem dX1_takeUp_38 : decode cX1_takeUp 38 = .ok (.putfield 39, 3) := by decide +kernel
theorem dX1_takeUp_41 : decode cX1_takeUp 41 = .ok (.aload_n 0, 1) := by decide +kernel
theorem dX1_takeUp_42 : decode cX1_takeUp 42 = .ok (.iload_n 2, 1) := by decide +kernel
theorem dX1_takeUp_43 : decode cX1_takeUp 43 = .ok (.invokevirtual 108, 3) := by decide +kernel
theorem dX1_takeUp_46 : decode cX1_takeUp 46 = .ok (.return_, 1) := by decide +kernel
theorem dX2_init_0 : decode cX2_init 0 = .ok (.aload_n 0, 1) := by decide +kernel
theorem dX2_init_1 : decode cX2_init 1 = .ok (.invokespecial 3, 3) := by decide +kernel
theorem dX2_init_4 : decode cX2_init 4 = .ok (.aload_n 0, 1) := by decide +kernel
theorem dX2_init_5 : decode cX2_init 5 = .ok (.sipush 1000, 3) := by decide +kernel
theorem dX2_init_8 : decode cX2_init 8 = .ok (.newarray .int, 2) := by decide +kernel
theorem dX2_init_10 : decode cX2_init 10 = .ok (.putfield 9, 3) := by decide +kernel
theorem dX2_init_13 : decode cX2_init 13 = .ok (.aload_n 0, 1) := by decide +kernel
theorem dX2_init_14 : decode cX2_init 14 = .ok (.bipush 32, 2) := by decide +kernel
theorem dX2_init_16 : decode cX2_init 16 = .ok (.newarray .int, 2) := by decide +kernel
theorem dX2_init_18 : decode cX2_init 18 = .ok (.putfield 15, 3) := by decide +kernel
theorem dX2_init_21 : decode cX2_init 21 = .ok (.return_, 1) := by decide +kernel
theorem dX2_clear_0 : decode cX2_clear 0 = .ok (.aload_n 0, 1) := by decide +kernel
theorem dX2_clear_1 : decode cX2_clear 1 = .ok (.iconst 0, 1) := by decide +kernel
theorem dX2_clear_2 : decode cX2_clear 2 = .ok (.putfield 18, 3) := by decide +kernel
theorem dX2_clear_5 : decode cX2_clear 5 = .ok (.return_, 1) := by decide +kernel
theorem dX2_add_0 : decode cX2_add 0 = .ok (.aload_n 0, 1) := by decide +kernel
theorem dX2_add_1 : decode cX2_add 1 = .ok (.getfield 18, 3) := by decide +kernel
theorem dX2_add_4 : decode cX2_add 4 = .ok (.aload_n 0, 1) := by decide +kernel
theorem dX2_add_5 : decode cX2_add 5 = .ok (.getfield 9, 3) := by decide +kernel
theorem dX2_add_8 : decode cX2_add 8 = .ok (.arraylength, 1) := by decide +kernel
theorem dX2_add_9 : decode cX2_add 9 = .ok (.if_icmp .ge 23, 3) := by decide +kernel
theorem dX2_add_12 : decode cX2_add 12 = .ok (.aload_n 0, 1) := by decide +kernel
theorem dX2_add_13 : decode cX2_add 13 = .ok (.getfield 9, 3) := by decide +kernel
theorem dX2_add_16 : decode cX2_add 16 = .ok (.aload_n 0, 1) := by decide +kernel
theorem dX2_add_17 : decode cX2_add 17 = .ok (.getfield 18, 3) := by decide +kernel
theorem dX2_add_20 : decode cX2_add 20 = .ok (.iload_n 1, 1) := by decide +kernel
theorem dX2_add_21 : decode cX2_add 21 = .ok (.iastore, 1) := by decide +kernel
theorem dX2_add_22 : decode cX2_add 22 = .ok (.aload_n 0, 1) := by decide +kernel
theorem dX2_add_23 : decode cX2_add 23 = .ok (.dup, 1) := by decide +kernel
theorem dX2_add_24 : decode cX2_add 24 = .ok (.getfield 18, 3) := by decide +kernel
theorem dX2_add_27 : decode cX2_add 27 = .ok (.iconst 1, 1) := by decide +kernel
theorem dX2_add_28 : decode cX2_add 28 = .ok (.iadd, 1) := by decide +kernel
theorem dX2_add_29 : decode cX2_add 29 = .ok (.putfield 18, 3) := by decide +kernel
theorem dX2_add_32 : decode cX2_add 32 = .ok (.return_, 1) := by decide +kernel
theorem dX2_valueOf_0 : decode cX2_valueOf 0 = .ok (.iconst 0, 1) := by decide +kernel
theorem dX2_valueOf_1 : decode cX2_valueOf 1 = .ok (.istore 5, 2) := by decide +kernel
theorem dX2_valueOf_3 : decode cX2_valueOf 3 = .ok (.iconst 0, 1) := by decide +kernel
theorem dX2_valueOf_4 : decode cX2_valueOf 4 = .ok (.istore 6, 2) := by decide +kernel
theorem dX2_valueOf_6 : decode cX2_valueOf 6 = .ok (.iload 6, 2) := by decide +kernel
theorem dX2_valueOf_8 : decode cX2_valueOf 8 = .ok (.aload_n 0, 1) := by decide +kernel
theorem dX2_valueOf_9 : decode cX2_valueOf 9 = .ok (.getfield 18, 3) := by decide +kernel
theorem dX2_valueOf_12 : decode cX2_valueOf 12 = .ok (.if_icmp .ge 325, 3) := by decide +kernel
theorem dX2_valueOf_15 : decode cX2_valueOf 15 = .ok (.aload_n 0, 1) := by decide +kernel
theorem dX2_valueOf_16 : decode cX2_valueOf 16 = .ok (.getfield 9, 3) := by decide +kernel
theorem dX2_valueOf_19 : decode cX2_valueOf 19 = .ok (.iload 6, 2) := by decide +kernel
theorem dX2_valueOf_21 : decode cX2_valueOf 21 = .ok (.iaload, 1) := by decide +kernel
theorem dX2_valueOf_22 : decode cX2_valueOf 22 = .ok (.istore 7, 2) := by decide +kernel
theorem dX2_valueOf_24 : decode cX2_valueOf 24 = .ok (.iload 5, 2) := by decide +kernel
theorem dX2_valueOf_26 : decode cX2_valueOf 26 = .ok (.ifCond .le 15, 3) := by decide +kernel
theorem dX2_valueOf_29 : decode cX2_valueOf 29 = .ok (.aload_n 0, 1) := by decide +kernel
theorem dX2_valueOf_30 : decode cX2_valueOf 30 = .ok (.getfield 15, 3) := by decide +kernel
theorem dX2_valueOf_33 : decode cX2_valueOf 33 = .ok (.iload 5, 2) := by decide +kernel
theorem dX2_valueOf_35 : decode cX2_valueOf 35 = .ok (.iconst 1, 1) := by decide +kernel
theorem dX2_valueOf_36 : decode cX2_valueOf 36 = .ok (.isub, 1) := by decide +kernel
theorem dX2_valueOf_37 : decode cX2_valueOf 37 = .ok (.iaload, 1) := by decide +kernel
theorem dX2_valueOf_38 : decode cX2_valueOf 38 = .ok (.goto 4, 3) := by decide +kernel
theorem dX2_valueOf_41 : decode cX2_valueOf 41 = .ok (.iconst 0, 1) := by decide +kernel
theorem dX2_valueOf_42 : decode cX2_valueOf 42 = .ok (.istore 8, 2) := by decide +kernel
theorem dX2_valueOf_44 : decode cX2_valueOf 44 = .ok (.iload 5, 2) := by decide +kernel
theorem dX2_valueOf_46 : decode cX2_valueOf 46 = .ok (.iconst 1, 1) := by decide +kernel
theorem dX2_valueOf_47 : decode cX2_valueOf 47 = .ok (.if_icmp .le 15, 3) := by decide +kernel
theorem dX2_valueOf_50 : decode cX2_valueOf 50 = .ok (.aload_n 0, 1) := by decide +kernel
theorem dX2_valueOf_51 : decode cX2_valueOf 51 = .ok (.getfield 15, 3) := by decide +kernel
theorem dX2_valueOf_54 : decode cX2_valueOf 54 = .ok (.iload 5, 2) := by decide +kernel
theorem dX2_valueOf_56 : decode cX2_valueOf 56 = .ok (.iconst 2, 1) := by decide +kernel
theorem dX2_valueOf_57 : decode cX2_valueOf 57 = .ok (.isub, 1) := by decide +kernel
theorem dX2_valueOf_58 : decode cX2_valueOf 58 = .ok (.iaload, 1) := by decide +kernel
theorem dX2_valueOf_59 : decode cX2_valueOf 59 = .ok (.goto 4, 3) := by decide +kernel
theorem dX2_valueOf_62 : decode cX2_valueOf 62 = .ok (.iconst 0, 1) := by decide +kernel
theorem dX2_valueOf_63 : decode cX2_valueOf 63 = .ok (.istore 9, 2) := by decide +kernel
theorem dX2_valueOf_65 : decode cX2_valueOf 65 = .ok (.iload 7, 2) := by decide +kernel
theorem dX2_valueOf_67 : decode cX2_valueOf 67 = .ok (.istore 10, 2) := by decide +kernel
theorem dX2_valueOf_69 : decode cX2_valueOf 69 = .ok (.iload 7, 2) := by decide +kernel
theorem dX2_valueOf_71 : decode cX2_valueOf 71 = .ok (.tableswitch 205 (-12) (-1) #[195, 185, 175, 158, 141, 121, 101, 86, 79, 73, 67, 61], 61) := by decide +kernel
theorem dX2_valueOf_132 : decode cX2_valueOf 132 = .ok (.iload_n 1, 1) := by decide +kernel
theorem dX2_valueOf_133 : decode cX2_valueOf 133 = .ok (.istore 10, 2) := by decide +kernel
theorem dX2_valueOf_135 : decode cX2_valueOf 135 = .ok (.goto 141, 3) := by decide +kernel
theorem dX2_valueOf_138 : decode cX2_valueOf 138 = .ok (.iload_n 2, 1) := by decide +kernel
theorem dX2_valueOf_139 : decode cX2_valueOf 139 = .ok (.istore 10, 2) := by decide +kernel
theorem dX2_valueOf_141 : decode cX2_valueOf 141 = .ok (.goto 135, 3) := by decide +kernel
theorem dX2_valueOf_144 : decode cX2_valueOf 144 = .ok (.iload_n 3, 1) := by decide +kernel
theorem dX2_valueOf_145 : decode cX2_valueOf 145 = .ok (.istore 10, 2) := by decide +kernel
theorem dX2_valueOf_147 : decode cX2_valueOf 147 = .ok (.goto 129, 3) := by decide +kernel
theorem dX2_valueOf_150 : decode cX2_valueOf 150 = .ok (.iload 4, 2) := by decide +kernel
theorem dX2_valueOf_152 : decode cX2_valueOf 152 = .ok (.istore 10, 2) := by decide +kernel
theorem dX2_valueOf_154 : decode cX2_valueOf 154 = .ok (.goto 122, 3) := by decide +kernel
theorem dX2_valueOf_157 : decode cX2_valueOf 157 = .ok (.iload 8, 2) := by decide +kernel
theorem dX2_valueOf_159 : decode cX2_valueOf 159 = .ok (.ifCond .ne 7, 3) := by decide +kernel
theorem dX2_valueOf_162 : decode cX2_valueOf 162 = .ok (.iconst 1, 1) := by decide +kernel
theorem dX2_valueOf_163 : decode cX2_valueOf 163 = .ok (.goto 4, 3) := by decide +kernel
theorem dX2_valueOf_166 : decode cX2_valueOf 166 = .ok (.iconst 0, 1) := by decide +kernel
theorem dX2_valueOf_167 : decode cX2_valueOf 167 = .ok (.istore 10, 2) := by decide +kernel
theorem dX2_valueOf_169 : decode cX2_valueOf 169 = .ok (.goto 107, 3) := by decide +kernel
theorem dX2_valueOf_172 : decode cX2_valueOf 172 = .ok (.iload 9, 2) := by decide +kernel
theorem dX2_valueOf_174 : decode cX2_valueOf 174 = .ok (.ifCond .eq 12, 3) := by decide +kernel
theorem dX2_valueOf_177 : decode cX2_valueOf 177 = .ok (.iload 8, 2) := by decide +kernel
theorem dX2_valueOf_179 : decode cX2_valueOf 179 = .ok (.ifCond .eq 7, 3) := by decide +kernel
theorem dX2_valueOf_182 : decode cX2_valueOf 182 = .ok (.iconst 1, 1) := by decide +kernel
theorem dX2_valueOf_183 : decode cX2_valueOf 183 = .ok (.goto 4, 3) := by decide +kernel
theorem dX2_valueOf_186 : decode cX2_valueOf 186 = .ok (.iconst 0, 1) := by decide +kernel
theorem dX2_valueOf_187 : decode cX2_valueOf 187 = .ok (.istore 10, 2) := by decide +kernel
theorem dX2_valueOf_189 : decode cX2_valueOf 189 = .ok (.goto 87, 3) := by decide +kernel
theorem dX2_valueOf_192 : decode cX2_valueOf 192 = .ok (.iload 9, 2) := by decide +kernel
theorem dX2_valueOf_194 : decode cX2_valueOf 194 = .ok (.ifCond .ne 8, 3) := by decide +kernel
theorem dX2_valueOf_197 : decode cX2_valueOf 197 = .ok (.iload 8, 2) := by decide +kernel
theorem dX2_valueOf_199 : decode cX2_valueOf 199 = .ok (.ifCond .eq 7, 3) := by decide +kernel
theorem dX2_valueOf_202 : decode cX2_valueOf 202 = .ok (.iconst 1, 1) := by decide +kernel
theorem dX2_valueOf_203 : decode cX2_valueOf 203 = .ok (.goto 4, 3) := by decide +kernel
theorem dX2_valueOf_206 : decode cX2_valueOf 206 = .ok (.iconst 0, 1) := by decide +kernel
theorem dX2_valueOf_207 : decode cX2_valueOf 207 = .ok (.istore 10, 2) := by decide +kernel
theorem dX2_valueOf_209 : decode cX2_valueOf 209 = .ok (.goto 67, 3) := by decide +kernel
theorem dX2_valueOf_212 : decode cX2_valueOf 212 = .ok (.iload 9, 2) := by decide +kernel
theorem dX2_valueOf_214 : decode cX2_valueOf 214 = .ok (.iload 8, 2) := by decide +kernel
theorem dX2_valueOf_216 : decode cX2_valueOf 216 = .ok (.if_icmp .ge 7, 3) := by decide +kernel
theorem dX2_valueOf_219 : decode cX2_valueOf 219 = .ok (.iconst 1, 1) := by decide +kernel
theorem dX2_valueOf_220 : decode cX2_valueOf 220 = .ok (.goto 4, 3) := by decide +kernel
theorem dX2_valueOf_223 : decode cX2_valueOf 223 = .ok (.iconst 0, 1) := by decide +kernel
theorem dX2_valueOf_224 : decode cX2_valueOf 224 = .ok (.istore 10, 2) := by decide +kernel
theorem dX2_valueOf_226 : decode cX2_valueOf 226 = .ok (.goto 50, 3) := by decide +kernel
theorem dX2_valueOf_229 : decode cX2_valueOf 229 = .ok (.iload 9, 2) := by decide +kernel
theorem dX2_valueOf_231 : decode cX2_valueOf 231 = .ok (.iload 8, 2) := by decide +kernel
theorem dX2_valueOf_233 : decode cX2_valueOf 233 = .ok (.if_icmp .ne 7, 3) := by decide +kernel
theorem dX2_valueOf_236 : decode cX2_valueOf 236 = .ok (.iconst 1, 1) := by decide +kernel
theorem dX2_valueOf_237 : decode cX2_valueOf 237 = .ok (.goto 4, 3) := by decide +kernel
theorem dX2_valueOf_240 : decode cX2_valueOf 240 = .ok (.iconst 0, 1) := by decide +kernel
theorem dX2_valueOf_241 : decode cX2_valueOf 241 = .ok (.istore 10, 2) := by decide +kernel
theorem dX2_valueOf_243 : decode cX2_valueOf 243 = .ok (.goto 33, 3) := by decide +kernel
theorem dX2_valueOf_246 : decode cX2_valueOf 246 = .ok (.iload 9, 2) := by decide +kernel
theorem dX2_valueOf_248 : decode cX2_valueOf 248 = .ok (.iload 8, 2) := by decide +kernel
theorem dX2_valueOf_250 : decode cX2_valueOf 250 = .ok (.iadd, 1) := by decide +kernel
theorem dX2_valueOf_251 : decode cX2_valueOf 251 = .ok (.istore 10, 2) := by decide +kernel
theorem dX2_valueOf_253 : decode cX2_valueOf 253 = .ok (.goto 23, 3) := by decide +kernel
theorem dX2_valueOf_256 : decode cX2_valueOf 256 = .ok (.iload 9, 2) := by decide +kernel
theorem dX2_valueOf_258 : decode cX2_valueOf 258 = .ok (.iload 8, 2) := by decide +kernel
theorem dX2_valueOf_260 : decode cX2_valueOf 260 = .ok (.isub, 1) := by decide +kernel
theorem dX2_valueOf_261 : decode cX2_valueOf 261 = .ok (.istore 10, 2) := by decide +kernel
theorem dX2_valueOf_263 : decode cX2_valueOf 263 = .ok (.goto 13, 3) := by decide +kernel
theorem dX2_valueOf_266 : decode cX2_valueOf 266 = .ok (.iload 9, 2) := by decide +kernel
theorem dX2_valueOf_268 : decode cX2_valueOf 268 = .ok (.iload 8, 2) := by decide +kernel
theorem dX2_valueOf_270 : decode cX2_valueOf 270 = .ok (.imul, 1) := by decide +kernel
theorem dX2_valueOf_271 : decode cX2_valueOf 271 = .ok (.istore 10, 2) := by decide +kernel
theorem dX2_valueOf_273 : decode cX2_valueOf 273 = .ok (.goto 3, 3) := by decide +kernel
theorem dX2_valueOf_276 : decode cX2_valueOf 276 = .ok (.iload 7, 2) := by decide +kernel
theorem dX2_valueOf_278 : decode cX2_valueOf 278 = .ok (.bipush (-4), 2) := by decide +kernel
theorem dX2_valueOf_280 : decode cX2_valueOf 280 = .ok (.if_icmp .lt 19, 3) := by decide +kernel
theorem dX2_valueOf_283 : decode cX2_valueOf 283 = .ok (.iload 5, 2) := by decide +kernel
theorem dX2_valueOf_285 : decode cX2_valueOf 285 = .ok (.aload_n 0, 1) := by decide +kernel
theorem dX2_valueOf_286 : decode cX2_valueOf 286 = .ok (.getfield 15, 3) := by decide +kernel
theorem dX2_valueOf_289 : decode cX2_valueOf 289 = .ok (.arraylength, 1) := by decide +kernel
theorem dX2_valueOf_290 : decode cX2_valueOf 290 = .ok (.if_icmp .ge 9, 3) := by decide +kernel
theorem dX2_valueOf_293 : decode cX2_valueOf 293 = .ok (.iinc 5 1, 3) := by decide +kernel
theorem dX2_valueOf_296 : decode cX2_valueOf 296 = .ok (.goto 19, 3) := by decide +kernel
theorem dX2_valueOf_299 : decode cX2_valueOf 299 = .ok (.iload 7, 2) := by decide +kernel
theorem dX2_valueOf_301 : decode cX2_valueOf 301 = .ok (.bipush (-5), 2) := by decide +kernel
theorem dX2_valueOf_303 : decode cX2_valueOf 303 = .ok (.if_icmp .ge 12, 3) := by decide +kernel
theorem dX2_valueOf_306 : decode cX2_valueOf 306 = .ok (.iload 5, 2) := by decide +kernel
theorem dX2_valueOf_308 : decode cX2_valueOf 308 = .ok (.iconst 1, 1) := by decide +kernel
theorem dX2_valueOf_309 : decode cX2_valueOf 309 = .ok (.if_icmp .le 6, 3) := by decide +kernel
theorem dX2_valueOf_312 : decode cX2_valueOf 312 = .ok (.iinc 5 (-1), 3) := by decide +kernel
theorem dX2_valueOf_315 : decode cX2_valueOf 315 = .ok (.iload 5, 2) := by decide +kernel
theorem dX2_valueOf_317 : decode cX2_valueOf 317 = .ok (.ifCond .le 14, 3) := by decide +kernel
theorem dX2_valueOf_320 : decode cX2_valueOf 320 = .ok (.aload_n 0, 1) := by decide +kernel
theorem dX2_valueOf_321 : decode cX2_valueOf 321 = .ok (.getfield 15, 3) := by decide +kernel
theorem dX2_valueOf_324 : decode cX2_valueOf 324 = .ok (.iload 5, 2) := by decide +kernel
theorem dX2_valueOf_326 : decode cX2_valueOf 326 = .ok (.iconst 1, 1) := by decide +kernel
theorem dX2_valueOf_327 : decode cX2_valueOf 327 = .ok (.isub, 1) := by decide +kernel
theorem dX2_valueOf_328 : decode cX2_valueOf 328 = .ok (.iload 10, 2) := by decide +kernel
theorem dX2_valueOf_330 : decode cX2_valueOf 330 = .ok (.iastore, 1) := by decide +kernel
theorem dX2_valueOf_331 : decode cX2_valueOf 331 = .ok (.iinc 6 1, 3) := by decide +kernel
theorem dX2_valueOf_334 : decode cX2_valueOf 334 = .ok (.goto (-328), 3) := by decide +kernel
theorem dX2_valueOf_337 : decode cX2_valueOf 337 = .ok (.iload 5, 2) := by decide +kernel
theorem dX2_valueOf_339 : decode cX2_valueOf 339 = .ok (.ifCond .le 12, 3) := by decide +kernel
theorem dX2_valueOf_342 : decode cX2_valueOf 342 = .ok (.aload_n 0, 1) := by decide +kernel
theorem dX2_valueOf_343 : decode cX2_valueOf 343 = .ok (.getfield 15, 3) := by decide +kernel
theorem dX2_valueOf_346 : decode cX2_valueOf 346 = .ok (.iconst 0, 1) := by decide +kernel
theorem dX2_valueOf_347 : decode cX2_valueOf 347 = .ok (.iaload, 1) := by decide +kernel
theorem dX2_valueOf_348 : decode cX2_valueOf 348 = .ok (.goto 4, 3) := by decide +kernel
theorem dX2_valueOf_351 : decode cX2_valueOf 351 = .ok (.iconst 1, 1) := by decide +kernel
theorem dX2_valueOf_352 : decode cX2_valueOf 352 = .ok (.ireturn, 1) := by decide +kernel
theorem dX3_init_0 : decode cX3_init 0 = .ok (.aload_n 0, 1) := by decide +kernel
theorem dX3_init_1 : decode cX3_init 1 = .ok (.invokespecial 1, 3) := by decide +kernel
theorem dX3_init_4 : decode cX3_init 4 = .ok (.aload_n 0, 1) := by decide +kernel
theorem dX3_init_5 : decode cX3_init 5 = .ok (.new 7, 3) := by decide +kernel
theorem dX3_init_8 : decode cX3_init 8 = .ok (.dup, 1) := by decide +kernel
theorem dX3_init_9 : decode cX3_init 9 = .ok (.invokespecial 9, 3) := by decide +kernel
theorem dX3_init_12 : decode cX3_init 12 = .ok (.putfield 10, 3) := by decide +kernel
theorem dX3_init_15 : decode cX3_init 15 = .ok (.aload_n 0, 1) := by decide +kernel
theorem dX3_init_16 : decode cX3_init 16 = .ok (.new 16, 3) := by decide +kernel
theorem dX3_init_19 : decode cX3_init 19 = .ok (.dup, 1) := by decide +kernel
theorem dX3_init_20 : decode cX3_init 20 = .ok (.invokespecial 18, 3) := by decide +kernel
theorem dX3_init_23 : decode cX3_init 23 = .ok (.putfield 19, 3) := by decide +kernel
theorem dX3_init_26 : decode cX3_init 26 = .ok (.return_, 1) := by decide +kernel
theorem dX4_init_0 : decode cX4_init 0 = .ok (.aload_n 0, 1) := by decide +kernel
theorem dX4_init_1 : decode cX4_init 1 = .ok (.invokespecial 3, 3) := by decide +kernel
theorem dX4_init_4 : decode cX4_init 4 = .ok (.aload_n 0, 1) := by decide +kernel
theorem dX4_init_5 : decode cX4_init 5 = .ok (.bipush 40, 2) := by decide +kernel
theorem dX4_init_7 : decode cX4_init 7 = .ok (.newarray .int, 2) := by decide +kernel
theorem dX4_init_9 : decode cX4_init 9 = .ok (.putfield 9, 3) := by decide +kernel
theorem dX4_init_12 : decode cX4_init 12 = .ok (.aload_n 0, 1) := by decide +kernel
theorem dX4_init_13 : decode cX4_init 13 = .ok (.bipush 40, 2) := by decide +kernel
theorem dX4_init_15 : decode cX4_init 15 = .ok (.newarray .int, 2) := by decide +kernel
theorem dX4_init_17 : decode cX4_init 17 = .ok (.putfield 15, 3) := by decide +kernel
theorem dX4_init_20 : decode cX4_init 20 = .ok (.aload_n 0, 1) := by decide +kernel
theorem dX4_init_21 : decode cX4_init 21 = .ok (.bipush 40, 2) := by decide +kernel
theorem dX4_init_23 : decode cX4_init 23 = .ok (.newarray .int, 2) := by decide +kernel
theorem dX4_init_25 : decode cX4_init 25 = .ok (.putfield 18, 3) := by decide +kernel
theorem dX4_init_28 : decode cX4_init 28 = .ok (.return_, 1) := by decide +kernel
theorem dX4_add_0 : decode cX4_add 0 = .ok (.aload_n 0, 1) := by decide +kernel
theorem dX4_add_1 : decode cX4_add 1 = .ok (.getfield 21, 3) := by decide +kernel
theorem dX4_add_4 : decode cX4_add 4 = .ok (.bipush 40, 2) := by decide +kernel
theorem dX4_add_6 : decode cX4_add 6 = .ok (.if_icmp .ge 43, 3) := by decide +kernel
theorem dX4_add_9 : decode cX4_add 9 = .ok (.aload_n 0, 1) := by decide +kernel
theorem dX4_add_10 : decode cX4_add 10 = .ok (.getfield 9, 3) := by decide +kernel
theorem dX4_add_13 : decode cX4_add 13 = .ok (.aload_n 0, 1) := by decide +kernel
theorem dX4_add_14 : decode cX4_add 14 = .ok (.getfield 21, 3) := by decide +kernel
theorem dX4_add_17 : decode cX4_add 17 = .ok (.iload_n 1, 1) := by decide +kernel
theorem dX4_add_18 : decode cX4_add 18 = .ok (.iastore, 1) := by decide +kernel
theorem dX4_add_19 : decode cX4_add 19 = .ok (.aload_n 0, 1) := by decide +kernel
theorem dX4_add_20 : decode cX4_add 20 = .ok (.getfield 15, 3) := by decide +kernel
theorem dX4_add_23 : decode cX4_add 23 = .ok (.aload_n 0, 1) := by decide +kernel
theorem dX4_add_24 : decode cX4_add 24 = .ok (.getfield 21, 3) := by decide +kernel
theorem dX4_add_27 : decode cX4_add 27 = .ok (.iload_n 2, 1) := by decide +kernel
theorem dX4_add_28 : decode cX4_add 28 = .ok (.iastore, 1) := by decide +kernel
theorem dX4_add_29 : decode cX4_add 29 = .ok (.aload_n 0, 1) := by decide +kernel
theorem dX4_add_30 : decode cX4_add 30 = .ok (.getfield 18, 3) := by decide +kernel
theorem dX4_add_33 : decode cX4_add 33 = .ok (.aload_n 0, 1) := by decide +kernel
theorem dX4_add_34 : decode cX4_add 34 = .ok (.getfield 21, 3) := by decide +kernel
theorem dX4_add_37 : decode cX4_add 37 = .ok (.iload_n 3, 1) := by decide +kernel
theorem dX4_add_38 : decode cX4_add 38 = .ok (.iastore, 1) := by decide +kernel
theorem dX4_add_39 : decode cX4_add 39 = .ok (.aload_n 0, 1) := by decide +kernel
theorem dX4_add_40 : decode cX4_add 40 = .ok (.dup, 1) := by decide +kernel
theorem dX4_add_41 : decode cX4_add 41 = .ok (.getfield 21, 3) := by decide +kernel
theorem dX4_add_44 : decode cX4_add 44 = .ok (.iconst 1, 1) := by decide +kernel
theorem dX4_add_45 : decode cX4_add 45 = .ok (.iadd, 1) := by decide +kernel
theorem dX4_add_46 : decode cX4_add 46 = .ok (.putfield 21, 3) := by decide +kernel
theorem dX4_add_49 : decode cX4_add 49 = .ok (.return_, 1) := by decide +kernel
theorem dX4_copyFrom_0 : decode cX4_copyFrom 0 = .ok (.aload_n 1, 1) := by decide +kernel
theorem dX4_copyFrom_1 : decode cX4_copyFrom 1 = .ok (.getfield 9, 3) := by decide +kernel
theorem dX4_copyFrom_4 : decode cX4_copyFrom 4 = .ok (.iconst 0, 1) := by decide +kernel
theorem dX4_copyFrom_5 : decode cX4_copyFrom 5 = .ok (.aload_n 0, 1) := by decide +kernel
theorem dX4_copyFrom_6 : decode cX4_copyFrom 6 = .ok (.getfield 9, 3) := by decide +kernel
theorem dX4_copyFrom_9 : decode cX4_copyFrom 9 = .ok (.iconst 0, 1) := by decide +kernel
theorem dX4_copyFrom_10 : decode cX4_copyFrom 10 = .ok (.bipush 40, 2) := by decide +kernel
theorem dX4_copyFrom_12 : decode cX4_copyFrom 12 = .ok (.invokestatic 25, 3) := by decide +kernel
theorem dX4_copyFrom_15 : decode cX4_copyFrom 15 = .ok (.aload_n 1, 1) := by decide +kernel
theorem dX4_copyFrom_16 : decode cX4_copyFrom 16 = .ok (.getfield 15, 3) := by decide +kernel
theorem dX4_copyFrom_19 : decode cX4_copyFrom 19 = .ok (.iconst 0, 1) := by decide +kernel
theorem dX4_copyFrom_20 : decode cX4_copyFrom 20 = .ok (.aload_n 0, 1) := by decide +kernel
theorem dX4_copyFrom_21 : decode cX4_copyFrom 21 = .ok (.getfield 15, 3) := by decide +kernel
theorem dX4_copyFrom_24 : decode cX4_copyFrom 24 = .ok (.iconst 0, 1) := by decide +kernel
theorem dX4_copyFrom_25 : decode cX4_copyFrom 25 = .ok (.bipush 40, 2) := by decide +kernel
theorem dX4_copyFrom_27 : decode cX4_copyFrom 27 = .ok (.invokestatic 25, 3) := by decide +kernel
theorem dX4_copyFrom_30 : decode cX4_copyFrom 30 = .ok (.aload_n 1, 1) := by decide +kernel
theorem dX4_copyFrom_31 : decode cX4_copyFrom 31 = .ok (.getfield 18, 3) := by decide +kernel
theorem dX4_copyFrom_34 : decode cX4_copyFrom 34 = .ok (.iconst 0, 1) := by decide +kernel
theorem dX4_copyFrom_35 : decode cX4_copyFrom 35 = .ok (.aload_n 0, 1) := by decide +kernel
theorem dX4_copyFrom_36 : decode cX4_copyFrom 36 = .ok (.getfield 18, 3) := by decide +kernel
theorem dX4_copyFrom_39 : decode cX4_copyFrom 39 = .ok (.iconst 0, 1) := by decide +kernel
theorem dX4_copyFrom_40 : decode cX4_copyFrom 40 = .ok (.bipush 40, 2) := by decide +kernel
theorem dX4_copyFrom_42 : decode cX4_copyFrom 42 = .ok (.invokestatic 25, 3) := by decide +kernel
theorem dX4_copyFrom_45 : decode cX4_copyFrom 45 = .ok (.aload_n 0, 1) := by decide +kernel
theorem dX4_copyFrom_46 : decode cX4_copyFrom 46 = .ok (.aload_n 1, 1) := by decide +kernel
theorem dX4_copyFrom_47 : decode cX4_copyFrom 47 = .ok (.getfield 21, 3) := by decide +kernel
theorem dX4_copyFrom_50 : decode cX4_copyFrom 50 = .ok (.putfield 21, 3) := by decide +kernel
theorem dX4_copyFrom_53 : decode cX4_copyFrom 53 = .ok (.return_, 1) := by decide +kernel
theorem dX5_init_0 : decode cX5_init 0 = .ok (.aload_n 0, 1) := by decide +kernel
theorem dX5_init_1 : decode cX5_init 1 = .ok (.invokespecial 3, 3) := by decide +kernel
theorem dX5_init_4 : decode cX5_init 4 = .ok (.aload_n 0, 1) := by decide +kernel
theorem dX5_init_5 : decode cX5_init 5 = .ok (.new 9, 3) := by decide +kernel
theorem dX5_init_8 : decode cX5_init 8 = .ok (.dup, 1) := by decide +kernel
theorem dX5_init_9 : decode cX5_init 9 = .ok (.invokespecial 11, 3) := by decide +kernel
theorem dX5_init_12 : decode cX5_init 12 = .ok (.putfield 12, 3) := by decide +kernel
theorem dX5_init_15 : decode cX5_init 15 = .ok (.return_, 1) := by decide +kernel
theorem dX5_readOffice_0 : decode cX5_readOffice 0 = .ok (.aload_n 1, 1) := by decide +kernel
theorem dX5_readOffice_1 : decode cX5_readOffice 1 = .ok (.invokevirtual 18, 3) := by decide +kernel
theorem dX5_readOffice_4 : decode cX5_readOffice 4 = .ok (.aload_n 0, 1) := by decide +kernel
theorem dX5_readOffice_5 : decode cX5_readOffice 5 = .ok (.iconst 0, 1) := by decide +kernel
theorem dX5_readOffice_6 : decode cX5_readOffice 6 = .ok (.putfield 23, 3) := by decide +kernel
theorem dX5_readOffice_9 : decode cX5_readOffice 9 = .ok (.aload_n 0, 1) := by decide +kernel
theorem dX5_readOffice_10 : decode cX5_readOffice 10 = .ok (.iconst 0, 1) := by decide +kernel
theorem dX5_readOffice_11 : decode cX5_readOffice 11 = .ok (.putfield 27, 3) := by decide +kernel
theorem dX5_readOffice_14 : decode cX5_readOffice 14 = .ok (.aload_n 0, 1) := by decide +kernel
theorem dX5_readOffice_15 : decode cX5_readOffice 15 = .ok (.iconst 0, 1) := by decide +kernel
theorem dX5_readOffice_16 : decode cX5_readOffice 16 = .ok (.putfield 30, 3) := by decide +kernel
theorem dX5_readOffice_19 : decode cX5_readOffice 19 = .ok (.aload_n 0, 1) := by decide +kernel
theorem dX5_readOffice_20 : decode cX5_readOffice 20 = .ok (.getfield 12, 3) := by decide +kernel
theorem dX5_readOffice_23 : decode cX5_readOffice 23 = .ok (.invokevirtual 34, 3) := by decide +kernel
theorem dX5_readOffice_26 : decode cX5_readOffice 26 = .ok (.iconst 1, 1) := by decide +kernel
theorem dX5_readOffice_27 : decode cX5_readOffice 27 = .ok (.istore_n 2, 1) := by decide +kernel
theorem dX5_readOffice_28 : decode cX5_readOffice 28 = .ok (.iconst 0, 1) := by decide +kernel
theorem dX5_readOffice_29 : decode cX5_readOffice 29 = .ok (.istore_n 3, 1) := by decide +kernel
theorem dX5_readOffice_30 : decode cX5_readOffice 30 = .ok (.iload_n 3, 1) := by decide +kernel
theorem dX5_readOffice_31 : decode cX5_readOffice 31 = .ok (.sipush 1000, 3) := by decide +kernel
theorem dX5_readOffice_34 : decode cX5_readOffice 34 = .ok (.if_icmp .ge 29, 3) := by decide +kernel
theorem dX5_readOffice_37 : decode cX5_readOffice 37 = .ok (.iload_n 2, 1) := by decide +kernel
theorem dX5_readOffice_38 : decode cX5_readOffice 38 = .ok (.ifCond .eq 25, 3) := by decide +kernel
theorem dX5_readOffice_41 : decode cX5_readOffice 41 = .ok (.aload_n 0, 1) := by decide +kernel
theorem dX5_readOffice_42 : decode cX5_readOffice 42 = .ok (.getfield 12, 3) := by decide +kernel
theorem dX5_readOffice_45 : decode cX5_readOffice 45 = .ok (.getfield 37, 3) := by decide +kernel
theorem dX5_readOffice_48 : decode cX5_readOffice 48 = .ok (.ifCond .eq 15, 3) := by decide +kernel
theorem dX5_readOffice_51 : decode cX5_readOffice 51 = .ok (.aload_n 0, 1) := by decide +kernel
theorem dX5_readOffice_52 : decode cX5_readOffice 52 = .ok (.aload_n 1, 1) := by decide +kernel
theorem dX5_readOffice_53 : decode cX5_readOffice 53 = .ok (.invokevirtual 40, 3) := by decide +kernel
theorem dX5_readOffice_56 : decode cX5_readOffice 56 = .ok (.istore_n 2, 1) := by decide +kernel
theorem dX5_readOffice_57 : decode cX5_readOffice 57 = .ok (.iinc 3 1, 3) := by decide +kernel
theorem dX5_readOffice_60 : decode cX5_readOffice 60 = .ok (.goto (-30), 3) := by decide +kernel
theorem dX5_readOffice_63 : decode cX5_readOffice 63 = .ok (.aload_n 0, 1) := by decide +kernel
theorem dX5_readOffice_64 : decode cX5_readOffice 64 = .ok (.getfield 12, 3) := by decide +kernel
theorem dX5_readOffice_67 : decode cX5_readOffice 67 = .ok (.invokevirtual 44, 3) := by decide +kernel
theorem dX5_readOffice_70 : decode cX5_readOffice 70 = .ok (.aload_n 0, 1) := by decide +kernel
theorem dX5_readOffice_71 : decode cX5_readOffice 71 = .ok (.getfield 30, 3) := by decide +kernel
theorem dX5_readOffice_74 : decode cX5_readOffice 74 = .ok (.ireturn, 1) := by decide +kernel
theorem dX5_readDay_0 : decode cX5_readDay 0 = .ok (.aload_n 1, 1) := by decide +kernel
theorem dX5_readDay_1 : decode cX5_readDay 1 = .ok (.iconst 0, 1) := by decide +kernel
theorem dX5_readDay_2 : decode cX5_readDay 2 = .ok (.putfield 45, 3) := by decide +kernel
theorem dX5_readDay_5 : decode cX5_readDay 5 = .ok (.aload_n 0, 1) := by decide +kernel
theorem dX5_readDay_6 : decode cX5_readDay 6 = .ok (.iconst 0, 1) := by decide +kernel
theorem dX5_readDay_7 : decode cX5_readDay 7 = .ok (.putfield 30, 3) := by decide +kernel
theorem dX5_readDay_10 : decode cX5_readDay 10 = .ok (.aload_n 0, 1) := by decide +kernel
theorem dX5_readDay_11 : decode cX5_readDay 11 = .ok (.getfield 12, 3) := by decide +kernel
theorem dX5_readDay_14 : decode cX5_readDay 14 = .ok (.invokevirtual 34, 3) := by decide +kernel
theorem dX5_readDay_17 : decode cX5_readDay 17 = .ok (.iconst 1, 1) := by decide +kernel
theorem dX5_readDay_18 : decode cX5_readDay 18 = .ok (.istore_n 3, 1) := by decide +kernel
theorem dX5_readDay_19 : decode cX5_readDay 19 = .ok (.iconst 0, 1) := by decide +kernel
theorem dX5_readDay_20 : decode cX5_readDay 20 = .ok (.istore 4, 2) := by decide +kernel
theorem dX5_readDay_22 : decode cX5_readDay 22 = .ok (.iload 4, 2) := by decide +kernel
theorem dX5_readDay_24 : decode cX5_readDay 24 = .ok (.sipush 1000, 3) := by decide +kernel
theorem dX5_readDay_27 : decode cX5_readDay 27 = .ok (.if_icmp .ge 30, 3) := by decide +kernel
theorem dX5_readDay_30 : decode cX5_readDay 30 = .ok (.iload_n 3, 1) := by decide +kernel
theorem dX5_readDay_31 : decode cX5_readDay 31 = .ok (.ifCond .eq 26, 3) := by decide +kernel
theorem dX5_readDay_34 : decode cX5_readDay 34 = .ok (.aload_n 0, 1) := by decide +kernel
theorem dX5_readDay_35 : decode cX5_readDay 35 = .ok (.getfield 12, 3) := by decide +kernel
theorem dX5_readDay_38 : decode cX5_readDay 38 = .ok (.getfield 37, 3) := by decide +kernel
theorem dX5_readDay_41 : decode cX5_readDay 41 = .ok (.ifCond .eq 16, 3) := by decide +kernel
theorem dX5_readDay_44 : decode cX5_readDay 44 = .ok (.aload_n 0, 1) := by decide +kernel
theorem dX5_readDay_45 : decode cX5_readDay 45 = .ok (.aload_n 1, 1) := by decide +kernel
theorem dX5_readDay_46 : decode cX5_readDay 46 = .ok (.aload_n 2, 1) := by decide +kernel
theorem dX5_readDay_47 : decode cX5_readDay 47 = .ok (.invokevirtual 50, 3) := by decide +kernel
theorem dX5_readDay_50 : decode cX5_readDay 50 = .ok (.istore_n 3, 1) := by decide +kernel
theorem dX5_readDay_51 : decode cX5_readDay 51 = .ok (.iinc 4 1, 3) := by decide +kernel
theorem dX5_readDay_54 : decode cX5_readDay 54 = .ok (.goto (-32), 3) := by decide +kernel
theorem dX5_readDay_57 : decode cX5_readDay 57 = .ok (.aload_n 0, 1) := by decide +kernel
theorem dX5_readDay_58 : decode cX5_readDay 58 = .ok (.getfield 12, 3) := by decide +kernel
theorem dX5_readDay_61 : decode cX5_readDay 61 = .ok (.invokevirtual 44, 3) := by decide +kernel
theorem dX5_readDay_64 : decode cX5_readDay 64 = .ok (.aload_n 0, 1) := by decide +kernel
theorem dX5_readDay_65 : decode cX5_readDay 65 = .ok (.getfield 30, 3) := by decide +kernel
theorem dX5_readDay_68 : decode cX5_readDay 68 = .ok (.ireturn, 1) := by decide +kernel
theorem dX5_fail_0 : decode cX5_fail 0 = .ok (.aload_n 0, 1) := by decide +kernel
theorem dX5_fail_1 : decode cX5_fail 1 = .ok (.iload_n 1, 1) := by decide +kernel
theorem dX5_fail_2 : decode cX5_fail 2 = .ok (.bipush 16, 2) := by decide +kernel
theorem dX5_fail_4 : decode cX5_fail 4 = .ok (.aload_n 0, 1) := by decide +kernel
theorem dX5_fail_5 : decode cX5_fail 5 = .ok (.getfield 12, 3) := by decide +kernel
theorem dX5_fail_8 : decode cX5_fail 8 = .ok (.getfield 54, 3) := by decide +kernel
theorem dX5_fail_11 : decode cX5_fail 11 = .ok (.imul, 1) := by decide +kernel
theorem dX5_fail_12 : decode cX5_fail 12 = .ok (.iadd, 1) := by decide +kernel
theorem dX5_fail_13 : decode cX5_fail 13 = .ok (.putfield 30, 3) := by decide +kernel
theorem dX5_fail_16 : decode cX5_fail 16 = .ok (.iconst 0, 1) := by decide +kernel
theorem dX5_fail_17 : decode cX5_fail 17 = .ok (.ireturn, 1) := by decide +kernel
theorem dX5_passWord_0 : decode cX5_passWord 0 = .ok (.aload_n 0, 1) := by decide +kernel
theorem dX5_passWord_1 : decode cX5_passWord 1 = .ok (.getfield 12, 3) := by decide +kernel
theorem dX5_passWord_4 : decode cX5_passWord 4 = .ok (.lload_n 1, 1) := by decide +kernel
theorem dX5_passWord_5 : decode cX5_passWord 5 = .ok (.invokevirtual 57, 3) := by decide +kernel
theorem dX5_passWord_8 : decode cX5_passWord 8 = .ok (.ifCond .ne 9, 3) := by decide +kernel
theorem dX5_passWord_11 : decode cX5_passWord 11 = .ok (.aload_n 0, 1) := by decide +kernel
theorem dX5_passWord_12 : decode cX5_passWord 12 = .ok (.iconst 1, 1) := by decide +kernel
theorem dX5_passWord_13 : decode cX5_passWord 13 = .ok (.invokevirtual 61, 3) := by decide +kernel
theorem dX5_passWord_16 : decode cX5_passWord 16 = .ok (.ireturn, 1) := by decide +kernel
theorem dX5_passWord_17 : decode cX5_passWord 17 = .ok (.aload_n 0, 1) := by decide +kernel
theorem dX5_passWord_18 : decode cX5_passWord 18 = .ok (.getfield 12, 3) := by decide +kernel
theorem dX5_passWord_21 : decode cX5_passWord 21 = .ok (.invokevirtual 65, 3) := by decide +kernel
theorem dX5_passWord_24 : decode cX5_passWord 24 = .ok (.iconst 1, 1) := by decide +kernel
theorem dX5_passWord_25 : decode cX5_passWord 25 = .ok (.ireturn, 1) := by decide +kernel
theorem dX5_passSign_0 : decode cX5_passSign 0 = .ok (.aload_n 0, 1) := by decide +kernel
theorem dX5_passSign_1 : decode cX5_passSign 1 = .ok (.getfield 12, 3) := by decide +kernel
theorem dX5_passSign_4 : decode cX5_passSign 4 = .ok (.iload_n 1, 1) := by decide +kernel
theorem dX5_passSign_5 : decode cX5_passSign 5 = .ok (.invokevirtual 68, 3) := by decide +kernel
theorem dX5_passSign_8 : decode cX5_passSign 8 = .ok (.ifCond .ne 9, 3) := by decide +kernel
theorem dX5_passSign_11 : decode cX5_passSign 11 = .ok (.aload_n 0, 1) := by decide +kernel
theorem dX5_passSign_12 : decode cX5_passSign 12 = .ok (.iconst 1, 1) := by decide +kernel
theorem dX5_passSign_13 : decode cX5_passSign 13 = .ok (.invokevirtual 61, 3) := by decide +kernel
theorem dX5_passSign_16 : decode cX5_passSign 16 = .ok (.ireturn, 1) := by decide +kernel
theorem dX5_passSign_17 : decode cX5_passSign 17 = .ok (.aload_n 0, 1) := by decide +kernel
theorem dX5_passSign_18 : decode cX5_passSign 18 = .ok (.getfield 12, 3) := by decide +kernel
theorem dX5_passSign_21 : decode cX5_passSign 21 = .ok (.invokevirtual 65, 3) := by decide +kernel
theorem dX5_passSign_24 : decode cX5_passSign 24 = .ok (.iconst 1, 1) := by decide +kernel
theorem dX5_passSign_25 : decode cX5_passSign 25 = .ok (.ireturn, 1) := by decide +kernel
theorem dX5_passNumber_0 : decode cX5_passNumber 0 = .ok (.aload_n 0, 1) := by decide +kernel
theorem dX5_passNumber_1 : decode cX5_passNumber 1 = .ok (.getfield 12, 3) := by decide +kernel
theorem dX5_passNumber_4 : decode cX5_passNumber 4 = .ok (.getfield 37, 3) := by decide +kernel
theorem dX5_passNumber_7 : decode cX5_passNumber 7 = .ok (.iconst 3, 1) := by decide +kernel
theorem dX5_passNumber_8 : decode cX5_passNumber 8 = .ok (.if_icmp .eq 9, 3) := by decide +kernel
theorem dX5_passNumber_11 : decode cX5_passNumber 11 = .ok (.aload_n 0, 1) := by decide +kernel
theorem dX5_passNumber_12 : decode cX5_passNumber 12 = .ok (.iconst 1, 1) := by decide +kernel
theorem dX5_passNumber_13 : decode cX5_passNumber 13 = .ok (.invokevirtual 61, 3) := by decide +kernel
theorem dX5_passNumber_16 : decode cX5_passNumber 16 = .ok (.ireturn, 1) := by decide +kernel
theorem dX5_passNumber_17 : decode cX5_passNumber 17 = .ok (.aload_n 0, 1) := by decide +kernel
theorem dX5_passNumber_18 : decode cX5_passNumber 18 = .ok (.getfield 12, 3) := by decide +kernel
theorem dX5_passNumber_21 : decode cX5_passNumber 21 = .ok (.getfield 72, 3) := by decide +kernel
theorem dX5_passNumber_24 : decode cX5_passNumber 24 = .ok (.iload_n 1, 1) := by decide +kernel
theorem dX5_passNumber_25 : decode cX5_passNumber 25 = .ok (.i2l, 1) := by decide +kernel
theorem dX5_passNumber_26 : decode cX5_passNumber 26 = .ok (.lcmp, 1) := by decide +kernel
theorem dX5_passNumber_27 : decode cX5_passNumber 27 = .ok (.ifCond .lt 16, 3) := by decide +kernel
theorem dX5_passNumber_30 : decode cX5_passNumber 30 = .ok (.aload_n 0, 1) := by decide +kernel
theorem dX5_passNumber_31 : decode cX5_passNumber 31 = .ok (.getfield 12, 3) := by decide +kernel
theorem dX5_passNumber_34 : decode cX5_passNumber 34 = .ok (.getfield 72, 3) := by decide +kernel
theorem dX5_passNumber_37 : decode cX5_passNumber 37 = .ok (.iload_n 2, 1) := by decide +kernel
theorem dX5_passNumber_38 : decode cX5_passNumber 38 = .ok (.i2l, 1) := by decide +kernel
theorem dX5_passNumber_39 : decode cX5_passNumber 39 = .ok (.lcmp, 1) := by decide +kernel
theorem dX5_passNumber_40 : decode cX5_passNumber 40 = .ok (.ifCond .le 9, 3) := by decide +kernel
theorem dX5_passNumber_43 : decode cX5_passNumber 43 = .ok (.aload_n 0, 1) := by decide +kernel
theorem dX5_passNumber_44 : decode cX5_passNumber 44 = .ok (.iconst 4, 1) := by decide +kernel
theorem dX5_passNumber_45 : decode cX5_passNumber 45 = .ok (.invokevirtual 61, 3) := by decide +kernel
theorem dX5_passNumber_48 : decode cX5_passNumber 48 = .ok (.ireturn, 1) := by decide +kernel
theorem dX5_passNumber_49 : decode cX5_passNumber 49 = .ok (.aload_n 0, 1) := by decide +kernel
theorem dX5_passNumber_50 : decode cX5_passNumber 50 = .ok (.aload_n 0, 1) := by decide +kernel
theorem dX5_passNumber_51 : decode cX5_passNumber 51 = .ok (.getfield 12, 3) := by decide +kernel
theorem dX5_passNumber_54 : decode cX5_passNumber 54 = .ok (.getfield 72, 3) := by decide +kernel
theorem dX5_passNumber_57 : decode cX5_passNumber 57 = .ok (.l2i, 1) := by decide +kernel
theorem dX5_passNumber_58 : decode cX5_passNumber 58 = .ok (.putfield 76, 3) := by decide +kernel
theorem dX5_passNumber_61 : decode cX5_passNumber 61 = .ok (.aload_n 0, 1) := by decide +kernel
theorem dX5_passNumber_62 : decode cX5_passNumber 62 = .ok (.getfield 12, 3) := by decide +kernel
theorem dX5_passNumber_65 : decode cX5_passNumber 65 = .ok (.invokevirtual 65, 3) := by decide +kernel
theorem dX5_passNumber_68 : decode cX5_passNumber 68 = .ok (.iconst 1, 1) := by decide +kernel
theorem dX5_passNumber_69 : decode cX5_passNumber 69 = .ok (.ireturn, 1) := by decide +kernel
theorem dX5_officeLine_0 : decode cX5_officeLine 0 = .ok (.aload_n 0, 1) := by decide +kernel
theorem dX5_officeLine_1 : decode cX5_officeLine 1 = .ok (.getfield 12, 3) := by decide +kernel
theorem dX5_officeLine_4 : decode cX5_officeLine 4 = .ok (.ldc2_w 79, 3) := by decide +kernel
theorem dX5_officeLine_7 : decode cX5_officeLine 7 = .ok (.invokevirtual 57, 3) := by decide +kernel
theorem dX5_officeLine_10 : decode cX5_officeLine 10 = .ok (.ifCond .eq 30, 3) := by decide +kernel
theorem dX5_officeLine_13 : decode cX5_officeLine 13 = .ok (.aload_n 1, 1) := by decide +kernel
theorem dX5_officeLine_14 : decode cX5_officeLine 14 = .ok (.getfield 81, 3) := by decide +kernel
theorem dX5_officeLine_17 : decode cX5_officeLine 17 = .ok (.bipush 6, 2) := by decide +kernel
theorem dX5_officeLine_19 : decode cX5_officeLine 19 = .ok (.if_icmp .ge 15, 3) := by decide +kernel
theorem dX5_officeLine_22 : decode cX5_officeLine 22 = .ok (.aload_n 0, 1) := by decide +kernel
theorem dX5_officeLine_23 : decode cX5_officeLine 23 = .ok (.aload_n 1, 1) := by decide +kernel
theorem dX5_officeLine_24 : decode cX5_officeLine 24 = .ok (.aload_n 1, 1) := by decide +kernel
theorem dX5_officeLine_25 : decode cX5_officeLine 25 = .ok (.getfield 81, 3) := by decide +kernel
theorem dX5_officeLine_28 : decode cX5_officeLine 28 = .ok (.invokevirtual 84, 3) := by decide +kernel
theorem dX5_officeLine_31 : decode cX5_officeLine 31 = .ok (.goto 8, 3) := by decide +kernel
theorem dX5_officeLine_34 : decode cX5_officeLine 34 = .ok (.aload_n 0, 1) := by decide +kernel
theorem dX5_officeLine_35 : decode cX5_officeLine 35 = .ok (.iconst 5, 1) := by decide +kernel
theorem dX5_officeLine_36 : decode cX5_officeLine 36 = .ok (.invokevirtual 61, 3) := by decide +kernel
theorem dX5_officeLine_39 : decode cX5_officeLine 39 = .ok (.ireturn, 1) := by decide +kernel
theorem dX5_officeLine_40 : decode cX5_officeLine 40 = .ok (.aload_n 0, 1) := by decide +kernel
theorem dX5_officeLine_41 : decode cX5_officeLine 41 = .ok (.getfield 12, 3) := by decide +kernel
theorem dX5_officeLine_44 : decode cX5_officeLine 44 = .ok (.ldc2_w 88, 3) := by decide +kernel
theorem dX5_officeLine_47 : decode cX5_officeLine 47 = .ok (.invokevirtual 57, 3) := by decide +kernel
theorem dX5_officeLine_50 : decode cX5_officeLine 50 = .ok (.ifCond .eq 24, 3) := by decide +kernel
theorem dX5_officeLine_53 : decode cX5_officeLine 53 = .ok (.aload_n 0, 1) := by decide +kernel
theorem dX5_officeLine_54 : decode cX5_officeLine 54 = .ok (.getfield 23, 3) := by decide +kernel
theorem dX5_officeLine_57 : decode cX5_officeLine 57 = .ok (.ifCond .eq 11, 3) := by decide +kernel
theorem dX5_officeLine_60 : decode cX5_officeLine 60 = .ok (.aload_n 0, 1) := by decide +kernel
theorem dX5_officeLine_61 : decode cX5_officeLine 61 = .ok (.iconst 3, 1) := by decide +kernel
theorem dX5_officeLine_62 : decode cX5_officeLine 62 = .ok (.invokevirtual 61, 3) := by decide +kernel
theorem dX5_officeLine_65 : decode cX5_officeLine 65 = .ok (.goto 8, 3) := by decide +kernel
theorem dX5_officeLine_68 : decode cX5_officeLine 68 = .ok (.aload_n 0, 1) := by decide +kernel
theorem dX5_officeLine_69 : decode cX5_officeLine 69 = .ok (.aload_n 1, 1) := by decide +kernel
theorem dX5_officeLine_70 : decode cX5_officeLine 70 = .ok (.invokevirtual 90, 3) := by decide +kernel
theorem dX5_officeLine_73 : decode cX5_officeLine 73 = .ok (.ireturn, 1) := by decide +kernel
theorem dX5_officeLine_74 : decode cX5_officeLine 74 = .ok (.aload_n 0, 1) := by decide +kernel
theorem dX5_officeLine_75 : decode cX5_officeLine 75 = .ok (.getfield 12, 3) := by decide +kernel
theorem dX5_officeLine_78 : decode cX5_officeLine 78 = .ok (.ldc2_w 93, 3) := by decide +kernel
theorem dX5_officeLine_81 : decode cX5_officeLine 81 = .ok (.invokevirtual 57, 3) := by decide +kernel
theorem dX5_officeLine_84 : decode cX5_officeLine 84 = .ok (.ifCond .ne 9, 3) := by decide +kernel
theorem dX5_officeLine_87 : decode cX5_officeLine 87 = .ok (.aload_n 0, 1) := by decide +kernel
theorem dX5_officeLine_88 : decode cX5_officeLine 88 = .ok (.iconst 1, 1) := by decide +kernel
theorem dX5_officeLine_89 : decode cX5_officeLine 89 = .ok (.invokevirtual 61, 3) := by decide +kernel
theorem dX5_officeLine_92 : decode cX5_officeLine 92 = .ok (.ireturn, 1) := by decide +kernel
theorem dX5_officeLine_93 : decode cX5_officeLine 93 = .ok (.aload_n 0, 1) := by decide +kernel
theorem dX5_officeLine_94 : decode cX5_officeLine 94 = .ok (.getfield 27, 3) := by decide +kernel
theorem dX5_officeLine_97 : decode cX5_officeLine 97 = .ok (.ifCond .eq 9, 3) := by decide +kernel
theorem dX5_officeLine_100 : decode cX5_officeLine 100 = .ok (.aload_n 0, 1) := by decide +kernel
theorem dX5_officeLine_101 : decode cX5_officeLine 101 = .ok (.iconst 3, 1) := by decide +kernel
theorem dX5_officeLine_102 : decode cX5_officeLine 102 = .ok (.invokevirtual 61, 3) := by decide +kernel
theorem dX5_officeLine_105 : decode cX5_officeLine 105 = .ok (.ireturn, 1) := by decide +kernel
theorem dX5_officeLine_106 : decode cX5_officeLine 106 = .ok (.aload_n 0, 1) := by decide +kernel
theorem dX5_officeLine_107 : decode cX5_officeLine 107 = .ok (.iconst 1, 1) := by decide +kernel
theorem dX5_officeLine_108 : decode cX5_officeLine 108 = .ok (.putfield 27, 3) := by decide +kernel
theorem dX5_officeLine_111 : decode cX5_officeLine 111 = .ok (.aload_n 0, 1) := by decide +kernel
theorem dX5_officeLine_112 : decode cX5_officeLine 112 = .ok (.getfield 12, 3) := by decide +kernel
theorem dX5_officeLine_115 : decode cX5_officeLine 115 = .ok (.invokevirtual 65, 3) := by decide +kernel
theorem dX5_officeLine_118 : decode cX5_officeLine 118 = .ok (.aload_n 0, 1) := by decide +kernel
theorem dX5_officeLine_119 : decode cX5_officeLine 119 = .ok (.aload_n 1, 1) := by decide +kernel
theorem dX5_officeLine_120 : decode cX5_officeLine 120 = .ok (.getfield 95, 3) := by decide +kernel
theorem dX5_officeLine_123 : decode cX5_officeLine 123 = .ok (.iconst 0, 1) := by decide +kernel
theorem dX5_officeLine_124 : decode cX5_officeLine 124 = .ok (.invokevirtual 99, 3) := by decide +kernel
theorem dX5_officeLine_127 : decode cX5_officeLine 127 = .ok (.ifCond .eq 16, 3) := by decide +kernel
theorem dX5_officeLine_130 : decode cX5_officeLine 130 = .ok (.aload_n 0, 1) := by decide +kernel
theorem dX5_officeLine_131 : decode cX5_officeLine 131 = .ok (.bipush 59, 2) := by decide +kernel
theorem dX5_officeLine_133 : decode cX5_officeLine 133 = .ok (.invokevirtual 103, 3) := by decide +kernel
theorem dX5_officeLine_136 : decode cX5_officeLine 136 = .ok (.ifCond .eq 7, 3) := by decide +kernel
theorem dX5_officeLine_139 : decode cX5_officeLine 139 = .ok (.iconst 1, 1) := by decide +kernel
theorem dX5_officeLine_140 : decode cX5_officeLine 140 = .ok (.goto 4, 3) := by decide +kernel
theorem dX5_officeLine_143 : decode cX5_officeLine 143 = .ok (.iconst 0, 1) := by decide +kernel
theorem dX5_officeLine_144 : decode cX5_officeLine 144 = .ok (.ireturn, 1) := by decide +kernel
theorem dX5_callerLine_0 : decode cX5_callerLine 0 = .ok (.aload_n 0, 1) := by decide +kernel
theorem dX5_callerLine_1 : decode cX5_callerLine 1 = .ok (.getfield 12, 3) := by decide +kernel
theorem dX5_callerLine_4 : decode cX5_callerLine 4 = .ok (.invokevirtual 65, 3) := by decide +kernel
theorem dX5_callerLine_7 : decode cX5_callerLine 7 = .ok (.aload_n 0, 1) := by decide +kernel
theorem dX5_callerLine_8 : decode cX5_callerLine 8 = .ok (.aload_n 1, 1) := by decide +kernel
theorem dX5_callerLine_9 : decode cX5_callerLine 9 = .ok (.iload_n 2, 1) := by decide +kernel
theorem dX5_callerLine_10 : decode cX5_callerLine 10 = .ok (.invokevirtual 106, 3) := by decide +kernel
theorem dX5_callerLine_13 : decode cX5_callerLine 13 = .ok (.ifCond .eq 12, 3) := by decide +kernel
theorem dX5_callerLine_16 : decode cX5_callerLine 16 = .ok (.aload_n 0, 1) := by decide +kernel
theorem dX5_callerLine_17 : decode cX5_callerLine 17 = .ok (.aload_n 1, 1) := by decide +kernel
theorem dX5_callerLine_18 : decode cX5_callerLine 18 = .ok (.iload_n 2, 1) := by decide +kernel
theorem dX5_callerLine_19 : decode cX5_callerLine 19 = .ok (.invokevirtual 109, 3) := by decide +kernel
theorem dX5_callerLine_22 : decode cX5_callerLine 22 = .ok (.ifCond .ne 5, 3) := by decide +kernel
theorem dX5_callerLine_25 : decode cX5_callerLine 25 = .ok (.iconst 0, 1) := by decide +kernel
theorem dX5_callerLine_26 : decode cX5_callerLine 26 = .ok (.ireturn, 1) := by decide +kernel
theorem dX5_callerLine_27 : decode cX5_callerLine 27 = .ok (.aload_n 0, 1) := by decide +kernel
theorem dX5_callerLine_28 : decode cX5_callerLine 28 = .ok (.ldc2_w 112, 3) := by decide +kernel
theorem dX5_callerLine_31 : decode cX5_callerLine 31 = .ok (.invokevirtual 114, 3) := by decide +kernel
theorem dX5_callerLine_34 : decode cX5_callerLine 34 = .ok (.ifCond .eq 13, 3) := by decide +kernel
theorem dX5_callerLine_37 : decode cX5_callerLine 37 = .ok (.aload_n 0, 1) := by decide +kernel
theorem dX5_callerLine_38 : decode cX5_callerLine 38 = .ok (.iconst 0, 1) := by decide +kernel
theorem dX5_callerLine_39 : decode cX5_callerLine 39 = .ok (.bipush 9, 2) := by decide +kernel
theorem dX5_callerLine_41 : decode cX5_callerLine 41 = .ok (.invokevirtual 117, 3) := by decide +kernel
theorem dX5_callerLine_44 : decode cX5_callerLine 44 = .ok (.ifCond .ne 5, 3) := by decide +kernel
theorem dX5_callerLine_47 : decode cX5_callerLine 47 = .ok (.iconst 0, 1) := by decide +kernel
theorem dX5_callerLine_48 : decode cX5_callerLine 48 = .ok (.ireturn, 1) := by decide +kernel
theorem dX5_callerLine_49 : decode cX5_callerLine 49 = .ok (.aload_n 1, 1) := by decide +kernel
theorem dX5_callerLine_50 : decode cX5_callerLine 50 = .ok (.getfield 121, 3) := by decide +kernel
theorem dX5_callerLine_53 : decode cX5_callerLine 53 = .ok (.iload_n 2, 1) := by decide +kernel
theorem dX5_callerLine_54 : decode cX5_callerLine 54 = .ok (.aload_n 0, 1) := by decide +kernel
theorem dX5_callerLine_55 : decode cX5_callerLine 55 = .ok (.getfield 76, 3) := by decide +kernel
theorem dX5_callerLine_58 : decode cX5_callerLine 58 = .ok (.iastore, 1) := by decide +kernel
theorem dX5_callerLine_59 : decode cX5_callerLine 59 = .ok (.aload_n 0, 1) := by decide +kernel
theorem dX5_callerLine_60 : decode cX5_callerLine 60 = .ok (.ldc2_w 125, 3) := by decide +kernel
theorem dX5_callerLine_63 : decode cX5_callerLine 63 = .ok (.invokevirtual 114, 3) := by decide +kernel
theorem dX5_callerLine_66 : decode cX5_callerLine 66 = .ok (.ifCond .eq 12, 3) := by decide +kernel
theorem dX5_callerLine_69 : decode cX5_callerLine 69 = .ok (.aload_n 0, 1) := by decide +kernel
theorem dX5_callerLine_70 : decode cX5_callerLine 70 = .ok (.aload_n 1, 1) := by decide +kernel
theorem dX5_callerLine_71 : decode cX5_callerLine 71 = .ok (.iload_n 2, 1) := by decide +kernel
theorem dX5_callerLine_72 : decode cX5_callerLine 72 = .ok (.invokevirtual 127, 3) := by decide +kernel
theorem dX5_callerLine_75 : decode cX5_callerLine 75 = .ok (.ifCond .ne 5, 3) := by decide +kernel
theorem dX5_callerLine_78 : decode cX5_callerLine 78 = .ok (.iconst 0, 1) := by decide +kernel
theorem dX5_callerLine_79 : decode cX5_callerLine 79 = .ok (.ireturn, 1) := by decide +kernel
theorem dX5_callerLine_80 : decode cX5_callerLine 80 = .ok (.aload_n 0, 1) := by decide +kernel
theorem dX5_callerLine_81 : decode cX5_callerLine 81 = .ok (.ldc2_w 130, 3) := by decide +kernel
theorem dX5_callerLine_84 : decode cX5_callerLine 84 = .ok (.invokevirtual 114, 3) := by decide +kernel
theorem dX5_callerLine_87 : decode cX5_callerLine 87 = .ok (.ifCond .eq 13, 3) := by decide +kernel
theorem dX5_callerLine_90 : decode cX5_callerLine 90 = .ok (.aload_n 0, 1) := by decide +kernel
theorem dX5_callerLine_91 : decode cX5_callerLine 91 = .ok (.iconst 1, 1) := by decide +kernel
theorem dX5_callerLine_92 : decode cX5_callerLine 92 = .ok (.bipush 30, 2) := by decide +kernel
theorem dX5_callerLine_94 : decode cX5_callerLine 94 = .ok (.invokevirtual 117, 3) := by decide +kernel
theorem dX5_callerLine_97 : decode cX5_callerLine 97 = .ok (.ifCond .ne 5, 3) := by decide +kernel
theorem dX5_callerLine_100 : decode cX5_callerLine 100 = .ok (.iconst 0, 1) := by decide +kernel
theorem dX5_callerLine_101 : decode cX5_callerLine 101 = .ok (.ireturn, 1) := by decide +kernel
theorem dX5_callerLine_102 : decode cX5_callerLine 102 = .ok (.aload_n 1, 1) := by decide +kernel
theorem dX5_callerLine_103 : decode cX5_callerLine 103 = .ok (.getfield 132, 3) := by decide +kernel
theorem dX5_callerLine_106 : decode cX5_callerLine 106 = .ok (.iload_n 2, 1) := by decide +kernel
theorem dX5_callerLine_107 : decode cX5_callerLine 107 = .ok (.aload_n 0, 1) := by decide +kernel
theorem dX5_callerLine_108 : decode cX5_callerLine 108 = .ok (.getfield 76, 3) := by decide +kernel
theorem dX5_callerLine_111 : decode cX5_callerLine 111 = .ok (.iastore, 1) := by decide +kernel
theorem dX5_callerLine_112 : decode cX5_callerLine 112 = .ok (.aload_n 1, 1) := by decide +kernel
theorem dX5_callerLine_113 : decode cX5_callerLine 113 = .ok (.iload_n 2, 1) := by decide +kernel
theorem dX5_callerLine_114 : decode cX5_callerLine 114 = .ok (.iconst 1, 1) := by decide +kernel
theorem dX5_callerLine_115 : decode cX5_callerLine 115 = .ok (.iadd, 1) := by decide +kernel
theorem dX5_callerLine_116 : decode cX5_callerLine 116 = .ok (.putfield 81, 3) := by decide +kernel
theorem dX5_callerLine_119 : decode cX5_callerLine 119 = .ok (.aload_n 0, 1) := by decide +kernel
theorem dX5_callerLine_120 : decode cX5_callerLine 120 = .ok (.bipush 59, 2) := by decide +kernel
theorem dX5_callerLine_122 : decode cX5_callerLine 122 = .ok (.invokevirtual 103, 3) := by decide +kernel
theorem dX5_callerLine_125 : decode cX5_callerLine 125 = .ok (.ireturn, 1) := by decide +kernel
theorem dX5_takesLine_0 : decode cX5_takesLine 0 = .ok (.aload_n 0, 1) := by decide +kernel
theorem dX5_takesLine_1 : decode cX5_takesLine 1 = .ok (.iconst 1, 1) := by decide +kernel
theorem dX5_takesLine_2 : decode cX5_takesLine 2 = .ok (.putfield 23, 3) := by decide +kernel
theorem dX5_takesLine_5 : decode cX5_takesLine 5 = .ok (.aload_n 0, 1) := by decide +kernel
theorem dX5_takesLine_6 : decode cX5_takesLine 6 = .ok (.getfield 12, 3) := by decide +kernel
theorem dX5_takesLine_9 : decode cX5_takesLine 9 = .ok (.invokevirtual 65, 3) := by decide +kernel
theorem dX5_takesLine_12 : decode cX5_takesLine 12 = .ok (.aload_n 0, 1) := by decide +kernel
theorem dX5_takesLine_13 : decode cX5_takesLine 13 = .ok (.iconst 1, 1) := by decide +kernel
theorem dX5_takesLine_14 : decode cX5_takesLine 14 = .ok (.bipush 20, 2) := by decide +kernel
theorem dX5_takesLine_16 : decode cX5_takesLine 16 = .ok (.invokevirtual 117, 3) := by decide +kernel
theorem dX5_takesLine_19 : decode cX5_takesLine 19 = .ok (.ifCond .ne 5, 3) := by decide +kernel
theorem dX5_takesLine_22 : decode cX5_takesLine 22 = .ok (.iconst 0, 1) := by decide +kernel
theorem dX5_takesLine_23 : decode cX5_takesLine 23 = .ok (.ireturn, 1) := by decide +kernel
theorem dX5_takesLine_24 : decode cX5_takesLine 24 = .ok (.aload_n 1, 1) := by decide +kernel
theorem dX5_takesLine_25 : decode cX5_takesLine 25 = .ok (.aload_n 0, 1) := by decide +kernel
theorem dX5_takesLine_26 : decode cX5_takesLine 26 = .ok (.getfield 76, 3) := by decide +kernel
theorem dX5_takesLine_29 : decode cX5_takesLine 29 = .ok (.putfield 135, 3) := by decide +kernel
theorem dX5_takesLine_32 : decode cX5_takesLine 32 = .ok (.aload_n 0, 1) := by decide +kernel
theorem dX5_takesLine_33 : decode cX5_takesLine 33 = .ok (.bipush 59, 2) := by decide +kernel
theorem dX5_takesLine_35 : decode cX5_takesLine 35 = .ok (.invokevirtual 103, 3) := by decide +kernel
theorem dX5_takesLine_38 : decode cX5_takesLine 38 = .ok (.ireturn, 1) := by decide +kernel
theorem dX5_isName_0 : decode cX5_isName 0 = .ok (.aload_n 0, 1) := by decide +kernel
theorem dX5_isName_1 : decode cX5_isName 1 = .ok (.getfield 12, 3) := by decide +kernel
theorem dX5_isName_4 : decode cX5_isName 4 = .ok (.getfield 72, 3) := by decide +kernel
theorem dX5_isName_7 : decode cX5_isName 7 = .ok (.lstore_n 1, 1) := by decide +kernel
theorem dX5_isName_8 : decode cX5_isName 8 = .ok (.aload_n 0, 1) := by decide +kernel
theorem dX5_isName_9 : decode cX5_isName 9 = .ok (.getfield 12, 3) := by decide +kernel
theorem dX5_isName_12 : decode cX5_isName 12 = .ok (.getfield 37, 3) := by decide +kernel
theorem dX5_isName_15 : decode cX5_isName 15 = .ok (.iconst 2, 1) := by decide +kernel
theorem dX5_isName_16 : decode cX5_isName 16 = .ok (.if_icmp .ne 46, 3) := by decide +kernel
theorem dX5_isName_19 : decode cX5_isName 19 = .ok (.lload_n 1, 1) := by decide +kernel
theorem dX5_isName_20 : decode cX5_isName 20 = .ok (.invokestatic 138, 3) := by decide +kernel
theorem dX5_isName_23 : decode cX5_isName 23 = .ok (.ifCond .ne 39, 3) := by decide +kernel
theorem dX5_isName_26 : decode cX5_isName 26 = .ok (.lload_n 1, 1) := by decide +kernel
theorem dX5_isName_27 : decode cX5_isName 27 = .ok (.invokestatic 141, 3) := by decide +kernel
theorem dX5_isName_30 : decode cX5_isName 30 = .ok (.iconst (-1), 1) := by decide +kernel
theorem dX5_isName_31 : decode cX5_isName 31 = .ok (.if_icmp .ne 31, 3) := by decide +kernel
theorem dX5_isName_34 : decode cX5_isName 34 = .ok (.lload_n 1, 1) := by decide +kernel
theorem dX5_isName_35 : decode cX5_isName 35 = .ok (.ldc2_w 145, 3) := by decide +kernel
theorem dX5_isName_38 : decode cX5_isName 38 = .ok (.lcmp, 1) := by decide +kernel
theorem dX5_isName_39 : decode cX5_isName 39 = .ok (.ifCond .eq 23, 3) := by decide +kernel
theorem dX5_isName_42 : decode cX5_isName 42 = .ok (.lload_n 1, 1) := by decide +kernel
theorem dX5_isName_43 : decode cX5_isName 43 = .ok (.ldc2_w 147, 3) := by decide +kernel
theorem dX5_isName_46 : decode cX5_isName 46 = .ok (.lcmp, 1) := by decide +kernel
theorem dX5_isName_47 : decode cX5_isName 47 = .ok (.ifCond .eq 15, 3) := by decide +kernel
theorem dX5_isName_50 : decode cX5_isName 50 = .ok (.lload_n 1, 1) := by decide +kernel
theorem dX5_isName_51 : decode cX5_isName 51 = .ok (.ldc2_w 149, 3) := by decide +kernel
theorem dX5_isName_54 : decode cX5_isName 54 = .ok (.lcmp, 1) := by decide +kernel
theorem dX5_isName_55 : decode cX5_isName 55 = .ok (.ifCond .eq 7, 3) := by decide +kernel
theorem dX5_isName_58 : decode cX5_isName 58 = .ok (.iconst 1, 1) := by decide +kernel
theorem dX5_isName_59 : decode cX5_isName 59 = .ok (.goto 4, 3) := by decide +kernel
theorem dX5_isName_62 : decode cX5_isName 62 = .ok (.iconst 0, 1) := by decide +kernel
theorem dX5_isName_63 : decode cX5_isName 63 = .ok (.ireturn, 1) := by decide +kernel
theorem dX5_isLineWord_0 : decode cX5_isLineWord 0 = .ok (.lload_n 0, 1) := by decide +kernel
theorem dX5_isLineWord_1 : decode cX5_isLineWord 1 = .ok (.ldc2_w 79, 3) := by decide +kernel
theorem dX5_isLineWord_4 : decode cX5_isLineWord 4 = .ok (.lcmp, 1) := by decide +kernel
theorem dX5_isLineWord_5 : decode cX5_isLineWord 5 = .ok (.ifCond .eq 75, 3) := by decide +kernel
theorem dX5_isLineWord_8 : decode cX5_isLineWord 8 = .ok (.lload_n 0, 1) := by decide +kernel
theorem dX5_isLineWord_9 : decode cX5_isLineWord 9 = .ok (.ldc2_w 112, 3) := by decide +kernel
theorem dX5_isLineWord_12 : decode cX5_isLineWord 12 = .ok (.lcmp, 1) := by decide +kernel
theorem dX5_isLineWord_13 : decode cX5_isLineWord 13 = .ok (.ifCond .eq 67, 3) := by decide +kernel
theorem dX5_isLineWord_16 : decode cX5_isLineWord 16 = .ok (.lload_n 0, 1) := by decide +kernel
theorem dX5_isLineWord_17 : decode cX5_isLineWord 17 = .ok (.ldc2_w 125, 3) := by decide +kernel
theorem dX5_isLineWord_20 : decode cX5_isLineWord 20 = .ok (.lcmp, 1) := by decide +kernel
theorem dX5_isLineWord_21 : decode cX5_isLineWord 21 = .ok (.ifCond .eq 59, 3) := by decide +kernel
theorem dX5_isLineWord_24 : decode cX5_isLineWord 24 = .ok (.lload_n 0, 1) := by decide +kernel
theorem dX5_isLineWord_25 : decode cX5_isLineWord 25 = .ok (.ldc2_w 130, 3) := by decide +kernel
theorem dX5_isLineWord_28 : decode cX5_isLineWord 28 = .ok (.lcmp, 1) := by decide +kernel
theorem dX5_isLineWord_29 : decode cX5_isLineWord 29 = .ok (.ifCond .eq 51, 3) := by decide +kernel
theorem dX5_isLineWord_32 : decode cX5_isLineWord 32 = .ok (.lload_n 0, 1) := by decide +kernel
theorem dX5_isLineWord_33 : decode cX5_isLineWord 33 = .ok (.ldc2_w 88, 3) := by decide +kernel
theorem dX5_isLineWord_36 : decode cX5_isLineWord 36 = .ok (.lcmp, 1) := by decide +kernel
theorem dX5_isLineWord_37 : decode cX5_isLineWord 37 = .ok (.ifCond .eq 43, 3) := by decide +kernel
theorem dX5_isLineWord_40 : decode cX5_isLineWord 40 = .ok (.lload_n 0, 1) := by decide +kernel
theorem dX5_isLineWord_41 : decode cX5_isLineWord 41 = .ok (.ldc2_w 93, 3) := by decide +kernel
theorem dX5_isLineWord_44 : decode cX5_isLineWord 44 = .ok (.lcmp, 1) := by decide +kernel
theorem dX5_isLineWord_45 : decode cX5_isLineWord 45 = .ok (.ifCond .eq 35, 3) := by decide +kernel
theorem dX5_isLineWord_48 : decode cX5_isLineWord 48 = .ok (.lload_n 0, 1) := by decide +kernel
theorem dX5_isLineWord_49 : decode cX5_isLineWord 49 = .ok (.ldc2_w 151, 3) := by decide +kernel
theorem dX5_isLineWord_52 : decode cX5_isLineWord 52 = .ok (.lcmp, 1) := by decide +kernel
theorem dX5_isLineWord_53 : decode cX5_isLineWord 53 = .ok (.ifCond .eq 27, 3) := by decide +kernel
theorem dX5_isLineWord_56 : decode cX5_isLineWord 56 = .ok (.lload_n 0, 1) := by decide +kernel
theorem dX5_isLineWord_57 : decode cX5_isLineWord 57 = .ok (.ldc2_w 153, 3) := by decide +kernel
theorem dX5_isLineWord_60 : decode cX5_isLineWord 60 = .ok (.lcmp, 1) := by decide +kernel
theorem dX5_isLineWord_61 : decode cX5_isLineWord 61 = .ok (.ifCond .eq 19, 3) := by decide +kernel
theorem dX5_isLineWord_64 : decode cX5_isLineWord 64 = .ok (.lload_n 0, 1) := by decide +kernel
theorem dX5_isLineWord_65 : decode cX5_isLineWord 65 = .ok (.ldc2_w 155, 3) := by decide +kernel
theorem dX5_isLineWord_68 : decode cX5_isLineWord 68 = .ok (.lcmp, 1) := by decide +kernel
theorem dX5_isLineWord_69 : decode cX5_isLineWord 69 = .ok (.ifCond .eq 11, 3) := by decide +kernel
theorem dX5_isLineWord_72 : decode cX5_isLineWord 72 = .ok (.lload_n 0, 1) := by decide +kernel
theorem dX5_isLineWord_73 : decode cX5_isLineWord 73 = .ok (.ldc2_w 157, 3) := by decide +kernel
theorem dX5_isLineWord_76 : decode cX5_isLineWord 76 = .ok (.lcmp, 1) := by decide +kernel
theorem dX5_isLineWord_77 : decode cX5_isLineWord 77 = .ok (.ifCond .ne 7, 3) := by decide +kernel
theorem dX5_isLineWord_80 : decode cX5_isLineWord 80 = .ok (.iconst 1, 1) := by decide +kernel
theorem dX5_isLineWord_81 : decode cX5_isLineWord 81 = .ok (.goto 4, 3) := by decide +kernel
theorem dX5_isLineWord_84 : decode cX5_isLineWord 84 = .ok (.iconst 0, 1) := by decide +kernel
theorem dX5_isLineWord_85 : decode cX5_isLineWord 85 = .ok (.ireturn, 1) := by decide +kernel
theorem dX5_kindOf_0 : decode cX5_kindOf 0 = .ok (.lload_n 0, 1) := by decide +kernel
theorem dX5_kindOf_1 : decode cX5_kindOf 1 = .ok (.ldc2_w 159, 3) := by decide +kernel
theorem dX5_kindOf_4 : decode cX5_kindOf 4 = .ok (.lcmp, 1) := by decide +kernel
theorem dX5_kindOf_5 : decode cX5_kindOf 5 = .ok (.ifCond .ne 5, 3) := by decide +kernel
theorem dX5_kindOf_8 : decode cX5_kindOf 8 = .ok (.iconst 0, 1) := by decide +kernel
theorem dX5_kindOf_9 : decode cX5_kindOf 9 = .ok (.ireturn, 1) := by decide +kernel
theorem dX5_kindOf_10 : decode cX5_kindOf 10 = .ok (.lload_n 0, 1) := by decide +kernel
theorem dX5_kindOf_11 : decode cX5_kindOf 11 = .ok (.ldc2_w 161, 3) := by decide +kernel
theorem dX5_kindOf_14 : decode cX5_kindOf 14 = .ok (.lcmp, 1) := by decide +kernel
theorem dX5_kindOf_15 : decode cX5_kindOf 15 = .ok (.ifCond .ne 5, 3) := by decide +kernel
theorem dX5_kindOf_18 : decode cX5_kindOf 18 = .ok (.iconst 1, 1) := by decide +kernel
theorem dX5_kindOf_19 : decode cX5_kindOf 19 = .ok (.ireturn, 1) := by decide +kernel
theorem dX5_kindOf_20 : decode cX5_kindOf 20 = .ok (.lload_n 0, 1) := by decide +kernel
theorem dX5_kindOf_21 : decode cX5_kindOf 21 = .ok (.ldc2_w 163, 3) := by decide +kernel
theorem dX5_kindOf_24 : decode cX5_kindOf 24 = .ok (.lcmp, 1) := by decide +kernel
theorem dX5_kindOf_25 : decode cX5_kindOf 25 = .ok (.ifCond .ne 5, 3) := by decide +kernel
theorem dX5_kindOf_28 : decode cX5_kindOf 28 = .ok (.iconst 2, 1) := by decide +kernel
theorem dX5_kindOf_29 : decode cX5_kindOf 29 = .ok (.ireturn, 1) := by decide +kernel
theorem dX5_kindOf_30 : decode cX5_kindOf 30 = .ok (.lload_n 0, 1) := by decide +kernel
theorem dX5_kindOf_31 : decode cX5_kindOf 31 = .ok (.ldc2_w 165, 3) := by decide +kernel
theorem dX5_kindOf_34 : decode cX5_kindOf 34 = .ok (.lcmp, 1) := by decide +kernel
theorem dX5_kindOf_35 : decode cX5_kindOf 35 = .ok (.ifCond .ne 7, 3) := by decide +kernel
theorem dX5_kindOf_38 : decode cX5_kindOf 38 = .ok (.iconst 3, 1) := by decide +kernel
theorem dX5_kindOf_39 : decode cX5_kindOf 39 = .ok (.goto 4, 3) := by decide +kernel
theorem dX5_kindOf_42 : decode cX5_kindOf 42 = .ok (.iconst (-1), 1) := by decide +kernel
theorem dX5_kindOf_43 : decode cX5_kindOf 43 = .ok (.ireturn, 1) := by decide +kernel
theorem dX5_newName_0 : decode cX5_newName 0 = .ok (.aload_n 0, 1) := by decide +kernel
theorem dX5_newName_1 : decode cX5_newName 1 = .ok (.invokevirtual 167, 3) := by decide +kernel
theorem dX5_newName_4 : decode cX5_newName 4 = .ok (.ifCond .ne 9, 3) := by decide +kernel
theorem dX5_newName_7 : decode cX5_newName 7 = .ok (.aload_n 0, 1) := by decide +kernel
theorem dX5_newName_8 : decode cX5_newName 8 = .ok (.iconst 1, 1) := by decide +kernel
theorem dX5_newName_9 : decode cX5_newName 9 = .ok (.invokevirtual 61, 3) := by decide +kernel
theorem dX5_newName_12 : decode cX5_newName 12 = .ok (.ireturn, 1) := by decide +kernel
theorem dX5_newName_13 : decode cX5_newName 13 = .ok (.aload_n 1, 1) := by decide +kernel
theorem dX5_newName_14 : decode cX5_newName 14 = .ok (.aload_n 0, 1) := by decide +kernel
theorem dX5_newName_15 : decode cX5_newName 15 = .ok (.getfield 12, 3) := by decide +kernel
theorem dX5_newName_18 : decode cX5_newName 18 = .ok (.getfield 72, 3) := by decide +kernel
theorem dX5_newName_21 : decode cX5_newName 21 = .ok (.invokevirtual 171, 3) := by decide +kernel
theorem dX5_newName_24 : decode cX5_newName 24 = .ok (.iconst (-1), 1) := by decide +kernel
theorem dX5_newName_25 : decode cX5_newName 25 = .ok (.if_icmp .eq 9, 3) := by decide +kernel
theorem dX5_newName_28 : decode cX5_newName 28 = .ok (.aload_n 0, 1) := by decide +kernel
theorem dX5_newName_29 : decode cX5_newName 29 = .ok (.iconst 3, 1) := by decide +kernel
theorem dX5_newName_30 : decode cX5_newName 30 = .ok (.invokevirtual 61, 3) := by decide +kernel
theorem dX5_newName_33 : decode cX5_newName 33 = .ok (.ireturn, 1) := by decide +kernel
theorem dX5_newName_34 : decode cX5_newName 34 = .ok (.aload_n 1, 1) := by decide +kernel
theorem dX5_newName_35 : decode cX5_newName 35 = .ok (.getfield 174, 3) := by decide +kernel
theorem dX5_newName_38 : decode cX5_newName 38 = .ok (.iload_n 2, 1) := by decide +kernel
theorem dX5_newName_39 : decode cX5_newName 39 = .ok (.aload_n 0, 1) := by decide +kernel
theorem dX5_newName_40 : decode cX5_newName 40 = .ok (.getfield 12, 3) := by decide +kernel
theorem dX5_newName_43 : decode cX5_newName 43 = .ok (.getfield 72, 3) := by decide +kernel
theorem dX5_newName_46 : decode cX5_newName 46 = .ok (.lastore, 1) := by decide +kernel
theorem dX5_newName_47 : decode cX5_newName 47 = .ok (.aload_n 0, 1) := by decide +kernel
theorem dX5_newName_48 : decode cX5_newName 48 = .ok (.getfield 12, 3) := by decide +kernel
theorem dX5_newName_51 : decode cX5_newName 51 = .ok (.invokevirtual 65, 3) := by decide +kernel
theorem dX5_newName_54 : decode cX5_newName 54 = .ok (.iconst 1, 1) := by decide +kernel
theorem dX5_newName_55 : decode cX5_newName 55 = .ok (.ireturn, 1) := by decide +kernel
theorem dX5_kindWord_0 : decode cX5_kindWord 0 = .ok (.aload_n 0, 1) := by decide +kernel
theorem dX5_kindWord_1 : decode cX5_kindWord 1 = .ok (.getfield 12, 3) := by decide +kernel
theorem dX5_kindWord_4 : decode cX5_kindWord 4 = .ok (.getfield 37, 3) := by decide +kernel
theorem dX5_kindWord_7 : decode cX5_kindWord 7 = .ok (.iconst 2, 1) := by decide +kernel
theorem dX5_kindWord_8 : decode cX5_kindWord 8 = .ok (.if_icmp .ne 16, 3) := by decide +kernel
theorem dX5_kindWord_11 : decode cX5_kindWord 11 = .ok (.aload_n 0, 1) := by decide +kernel
theorem dX5_kindWord_12 : decode cX5_kindWord 12 = .ok (.getfield 12, 3) := by decide +kernel
theorem dX5_kindWord_15 : decode cX5_kindWord 15 = .ok (.getfield 72, 3) := by decide +kernel
theorem dX5_kindWord_18 : decode cX5_kindWord 18 = .ok (.invokestatic 141, 3) := by decide +kernel
theorem dX5_kindWord_21 : decode cX5_kindWord 21 = .ok (.goto 4, 3) := by decide +kernel
theorem dX5_kindWord_24 : decode cX5_kindWord 24 = .ok (.iconst (-1), 1) := by decide +kernel
theorem dX5_kindWord_25 : decode cX5_kindWord 25 = .ok (.istore_n 3, 1) := by decide +kernel
theorem dX5_kindWord_26 : decode cX5_kindWord 26 = .ok (.iload_n 3, 1) := by decide +kernel
theorem dX5_kindWord_27 : decode cX5_kindWord 27 = .ok (.iconst (-1), 1) := by decide +kernel
theorem dX5_kindWord_28 : decode cX5_kindWord 28 = .ok (.if_icmp .ne 9, 3) := by decide +kernel
theorem dX5_kindWord_31 : decode cX5_kindWord 31 = .ok (.aload_n 0, 1) := by decide +kernel
theorem dX5_kindWord_32 : decode cX5_kindWord 32 = .ok (.iconst 1, 1) := by decide +kernel
theorem dX5_kindWord_33 : decode cX5_kindWord 33 = .ok (.invokevirtual 61, 3) := by decide +kernel
theorem dX5_kindWord_36 : decode cX5_kindWord 36 = .ok (.ireturn, 1) := by decide +kernel
theorem dX5_kindWord_37 : decode cX5_kindWord 37 = .ok (.aload_n 1, 1) := by decide +kernel
theorem dX5_kindWord_38 : decode cX5_kindWord 38 = .ok (.getfield 178, 3) := by decide +kernel
theorem dX5_kindWord_41 : decode cX5_kindWord 41 = .ok (.iload_n 2, 1) := by decide +kernel
theorem dX5_kindWord_42 : decode cX5_kindWord 42 = .ok (.iload_n 3, 1) := by decide +kernel
theorem dX5_kindWord_43 : decode cX5_kindWord 43 = .ok (.iastore, 1) := by decide +kernel
theorem dX5_kindWord_44 : decode cX5_kindWord 44 = .ok (.aload_n 0, 1) := by decide +kernel
theorem dX5_kindWord_45 : decode cX5_kindWord 45 = .ok (.getfield 12, 3) := by decide +kernel
theorem dX5_kindWord_48 : decode cX5_kindWord 48 = .ok (.invokevirtual 65, 3) := by decide +kernel
theorem dX5_kindWord_51 : decode cX5_kindWord 51 = .ok (.iconst 1, 1) := by decide +kernel
theorem dX5_kindWord_52 : decode cX5_kindWord 52 = .ok (.ireturn, 1) := by decide +kernel
theorem dX5_answers_0 : decode cX5_answers 0 = .ok (.aload_n 1, 1) := by decide +kernel
theorem dX5_answers_1 : decode cX5_answers 1 = .ok (.getfield 181, 3) := by decide +kernel
theorem dX5_answers_4 : decode cX5_answers 4 = .ok (.iload_n 2, 1) := by decide +kernel
theorem dX5_answers_5 : decode cX5_answers 5 = .ok (.iconst 0, 1) := by decide +kernel
theorem dX5_answers_6 : decode cX5_answers 6 = .ok (.iastore, 1) := by decide +kernel
theorem dX5_answers_7 : decode cX5_answers 7 = .ok (.iconst 0, 1) := by decide +kernel
theorem dX5_answers_8 : decode cX5_answers 8 = .ok (.istore_n 3, 1) := by decide +kernel
theorem dX5_answers_9 : decode cX5_answers 9 = .ok (.iload_n 3, 1) := by decide +kernel
theorem dX5_answers_10 : decode cX5_answers 10 = .ok (.bipush 6, 2) := by decide +kernel
theorem dX5_answers_12 : decode cX5_answers 12 = .ok (.if_icmp .gt 100, 3) := by decide +kernel
theorem dX5_answers_15 : decode cX5_answers 15 = .ok (.aload_n 0, 1) := by decide +kernel
theorem dX5_answers_16 : decode cX5_answers 16 = .ok (.getfield 12, 3) := by decide +kernel
theorem dX5_answers_19 : decode cX5_answers 19 = .ok (.getfield 37, 3) := by decide +kernel
theorem dX5_answers_22 : decode cX5_answers 22 = .ok (.iconst 3, 1) := by decide +kernel
theorem dX5_answers_23 : decode cX5_answers 23 = .ok (.if_icmp .ne 89, 3) := by decide +kernel
theorem dX5_answers_26 : decode cX5_answers 26 = .ok (.aload_n 0, 1) := by decide +kernel
theorem dX5_answers_27 : decode cX5_answers 27 = .ok (.getfield 12, 3) := by decide +kernel
theorem dX5_answers_30 : decode cX5_answers 30 = .ok (.getfield 72, 3) := by decide +kernel
theorem dX5_answers_33 : decode cX5_answers 33 = .ok (.ldc2_w 184, 3) := by decide +kernel
theorem dX5_answers_36 : decode cX5_answers 36 = .ok (.lcmp, 1) := by decide +kernel
theorem dX5_answers_37 : decode cX5_answers 37 = .ok (.ifCond .le 9, 3) := by decide +kernel
theorem dX5_answers_40 : decode cX5_answers 40 = .ok (.aload_n 0, 1) := by decide +kernel
theorem dX5_answers_41 : decode cX5_answers 41 = .ok (.iconst 4, 1) := by decide +kernel
theorem dX5_answers_42 : decode cX5_answers 42 = .ok (.invokevirtual 61, 3) := by decide +kernel
theorem dX5_answers_45 : decode cX5_answers 45 = .ok (.ireturn, 1) := by decide +kernel
theorem dX5_answers_46 : decode cX5_answers 46 = .ok (.iconst 1, 1) := by decide +kernel
theorem dX5_answers_47 : decode cX5_answers 47 = .ok (.aload_n 0, 1) := by decide +kernel
theorem dX5_answers_48 : decode cX5_answers 48 = .ok (.getfield 12, 3) := by decide +kernel
theorem dX5_answers_51 : decode cX5_answers 51 = .ok (.getfield 72, 3) := by decide +kernel
theorem dX5_answers_54 : decode cX5_answers 54 = .ok (.l2i, 1) := by decide +kernel
theorem dX5_answers_55 : decode cX5_answers 55 = .ok (.ishl, 1) := by decide +kernel
theorem dX5_answers_56 : decode cX5_answers 56 = .ok (.istore 4, 2) := by decide +kernel
theorem dX5_answers_58 : decode cX5_answers 58 = .ok (.aload_n 1, 1) := by decide +kernel
theorem dX5_answers_59 : decode cX5_answers 59 = .ok (.getfield 181, 3) := by decide +kernel
theorem dX5_answers_62 : decode cX5_answers 62 = .ok (.iload_n 2, 1) := by decide +kernel
theorem dX5_answers_63 : decode cX5_answers 63 = .ok (.iaload, 1) := by decide +kernel
theorem dX5_answers_64 : decode cX5_answers 64 = .ok (.iload 4, 2) := by decide +kernel
theorem dX5_answers_66 : decode cX5_answers 66 = .ok (.iand, 1) := by decide +kernel
theorem dX5_answers_67 : decode cX5_answers 67 = .ok (.ifCond .eq 9, 3) := by decide +kernel
theorem dX5_answers_70 : decode cX5_answers 70 = .ok (.aload_n 0, 1) := by decide +kernel
theorem dX5_answers_71 : decode cX5_answers 71 = .ok (.iconst 3, 1) := by decide +kernel
theorem dX5_answers_72 : decode cX5_answers 72 = .ok (.invokevirtual 61, 3) := by decide +kernel
theorem dX5_answers_75 : decode cX5_answers 75 = .ok (.ireturn, 1) := by decide +kernel
theorem dX5_answers_76 : decode cX5_answers 76 = .ok (.iload_n 3, 1) := by decide +kernel
theorem dX5_answers_77 : decode cX5_answers 77 = .ok (.bipush 6, 2) := by decide +kernel
theorem dX5_answers_79 : decode cX5_answers 79 = .ok (.if_icmp .ne 9, 3) := by decide +kernel
theorem dX5_answers_82 : decode cX5_answers 82 = .ok (.aload_n 0, 1) := by decide +kernel
theorem dX5_answers_83 : decode cX5_answers 83 = .ok (.iconst 5, 1) := by decide +kernel
theorem dX5_answers_84 : decode cX5_answers 84 = .ok (.invokevirtual 61, 3) := by decide +kernel
theorem dX5_answers_87 : decode cX5_answers 87 = .ok (.ireturn, 1) := by decide +kernel
theorem dX5_answers_88 : decode cX5_answers 88 = .ok (.aload_n 1, 1) := by decide +kernel
theorem dX5_answers_89 : decode cX5_answers 89 = .ok (.getfield 181, 3) := by decide +kernel
theorem dX5_answers_92 : decode cX5_answers 92 = .ok (.iload_n 2, 1) := by decide +kernel
theorem dX5_answers_93 : decode cX5_answers 93 = .ok (.dup2, 1) := by decide +kernel
theorem dX5_answers_94 : decode cX5_answers 94 = .ok (.iaload, 1) := by decide +kernel
theorem dX5_answers_95 : decode cX5_answers 95 = .ok (.iload 4, 2) := by decide +kernel
theorem dX5_answers_97 : decode cX5_answers 97 = .ok (.ior, 1) := by decide +kernel
theorem dX5_answers_98 : decode cX5_answers 98 = .ok (.iastore, 1) := by decide +kernel
theorem dX5_answers_99 : decode cX5_answers 99 = .ok (.aload_n 0, 1) := by decide +kernel
theorem dX5_answers_100 : decode cX5_answers 100 = .ok (.getfield 12, 3) := by decide +kernel
theorem dX5_answers_103 : decode cX5_answers 103 = .ok (.invokevirtual 65, 3) := by decide +kernel
theorem dX5_answers_106 : decode cX5_answers 106 = .ok (.iinc 3 1, 3) := by decide +kernel
theorem dX5_answers_109 : decode cX5_answers 109 = .ok (.goto (-100), 3) := by decide +kernel
theorem dX5_answers_112 : decode cX5_answers 112 = .ok (.aload_n 1, 1) := by decide +kernel
theorem dX5_answers_113 : decode cX5_answers 113 = .ok (.getfield 181, 3) := by decide +kernel
theorem dX5_answers_116 : decode cX5_answers 116 = .ok (.iload_n 2, 1) := by decide +kernel
theorem dX5_answers_117 : decode cX5_answers 117 = .ok (.iaload, 1) := by decide +kernel
theorem dX5_answers_118 : decode cX5_answers 118 = .ok (.ifCond .ne 11, 3) := by decide +kernel
theorem dX5_answers_121 : decode cX5_answers 121 = .ok (.aload_n 0, 1) := by decide +kernel
theorem dX5_answers_122 : decode cX5_answers 122 = .ok (.iconst 1, 1) := by decide +kernel
theorem dX5_answers_123 : decode cX5_answers 123 = .ok (.invokevirtual 61, 3) := by decide +kernel
theorem dX5_answers_126 : decode cX5_answers 126 = .ok (.ifCond .eq 7, 3) := by decide +kernel
theorem dX5_answers_129 : decode cX5_answers 129 = .ok (.iconst 1, 1) := by decide +kernel
theorem dX5_answers_130 : decode cX5_answers 130 = .ok (.goto 4, 3) := by decide +kernel
theorem dX5_answers_133 : decode cX5_answers 133 = .ok (.iconst 0, 1) := by decide +kernel
theorem dX5_answers_134 : decode cX5_answers 134 = .ok (.ireturn, 1) := by decide +kernel
theorem dX5_dayLine_0 : decode cX5_dayLine 0 = .ok (.aload_n 0, 1) := by decide +kernel
theorem dX5_dayLine_1 : decode cX5_dayLine 1 = .ok (.invokevirtual 186, 3) := by decide +kernel
theorem dX5_dayLine_4 : decode cX5_dayLine 4 = .ok (.istore_n 3, 1) := by decide +kernel
theorem dX5_dayLine_5 : decode cX5_dayLine 5 = .ok (.iload_n 3, 1) := by decide +kernel
theorem dX5_dayLine_6 : decode cX5_dayLine 6 = .ok (.iconst (-1), 1) := by decide +kernel
theorem dX5_dayLine_7 : decode cX5_dayLine 7 = .ok (.if_icmp .ne 9, 3) := by decide +kernel
theorem dX5_dayLine_10 : decode cX5_dayLine 10 = .ok (.aload_n 0, 1) := by decide +kernel
theorem dX5_dayLine_11 : decode cX5_dayLine 11 = .ok (.iconst 1, 1) := by decide +kernel
theorem dX5_dayLine_12 : decode cX5_dayLine 12 = .ok (.invokevirtual 61, 3) := by decide +kernel
theorem dX5_dayLine_15 : decode cX5_dayLine 15 = .ok (.ireturn, 1) := by decide +kernel
theorem dX5_dayLine_16 : decode cX5_dayLine 16 = .ok (.aload_n 1, 1) := by decide +kernel
theorem dX5_dayLine_17 : decode cX5_dayLine 17 = .ok (.getfield 45, 3) := by decide +kernel
theorem dX5_dayLine_20 : decode cX5_dayLine 20 = .ok (.bipush 40, 2) := by decide +kernel
theorem dX5_dayLine_22 : decode cX5_dayLine 22 = .ok (.if_icmp .lt 9, 3) := by decide +kernel
theorem dX5_dayLine_25 : decode cX5_dayLine 25 = .ok (.aload_n 0, 1) := by decide +kernel
theorem dX5_dayLine_26 : decode cX5_dayLine 26 = .ok (.iconst 5, 1) := by decide +kernel
theorem dX5_dayLine_27 : decode cX5_dayLine 27 = .ok (.invokevirtual 61, 3) := by decide +kernel
theorem dX5_dayLine_30 : decode cX5_dayLine 30 = .ok (.ireturn, 1) := by decide +kernel
theorem dX5_dayLine_31 : decode cX5_dayLine 31 = .ok (.aload_n 0, 1) := by decide +kernel
theorem dX5_dayLine_32 : decode cX5_dayLine 32 = .ok (.getfield 12, 3) := by decide +kernel
theorem dX5_dayLine_35 : decode cX5_dayLine 35 = .ok (.invokevirtual 65, 3) := by decide +kernel
theorem dX5_dayLine_38 : decode cX5_dayLine 38 = .ok (.iconst (-1), 1) := by decide +kernel
theorem dX5_dayLine_39 : decode cX5_dayLine 39 = .ok (.istore 4, 2) := by decide +kernel
theorem dX5_dayLine_41 : decode cX5_dayLine 41 = .ok (.iconst (-1), 1) := by decide +kernel
theorem dX5_dayLine_42 : decode cX5_dayLine 42 = .ok (.istore 5, 2) := by decide +kernel
theorem dX5_dayLine_44 : decode cX5_dayLine 44 = .ok (.iload_n 3, 1) := by decide +kernel
theorem dX5_dayLine_45 : decode cX5_dayLine 45 = .ok (.iconst 3, 1) := by decide +kernel
theorem dX5_dayLine_46 : decode cX5_dayLine 46 = .ok (.if_icmp .eq 19, 3) := by decide +kernel
theorem dX5_dayLine_49 : decode cX5_dayLine 49 = .ok (.aload_n 0, 1) := by decide +kernel
theorem dX5_dayLine_50 : decode cX5_dayLine 50 = .ok (.aload_n 2, 1) := by decide +kernel
theorem dX5_dayLine_51 : decode cX5_dayLine 51 = .ok (.iconst (-1), 1) := by decide +kernel
theorem dX5_dayLine_52 : decode cX5_dayLine 52 = .ok (.invokevirtual 190, 3) := by decide +kernel
theorem dX5_dayLine_55 : decode cX5_dayLine 55 = .ok (.istore 4, 2) := by decide +kernel
theorem dX5_dayLine_57 : decode cX5_dayLine 57 = .ok (.iload 4, 2) := by decide +kernel
theorem dX5_dayLine_59 : decode cX5_dayLine 59 = .ok (.iconst (-1), 1) := by decide +kernel
theorem dX5_dayLine_60 : decode cX5_dayLine 60 = .ok (.if_icmp .ne 5, 3) := by decide +kernel
theorem dX5_dayLine_63 : decode cX5_dayLine 63 = .ok (.iconst 0, 1) := by decide +kernel
theorem dX5_dayLine_64 : decode cX5_dayLine 64 = .ok (.ireturn, 1) := by decide +kernel
theorem dX5_dayLine_65 : decode cX5_dayLine 65 = .ok (.iload_n 3, 1) := by decide +kernel
theorem dX5_dayLine_66 : decode cX5_dayLine 66 = .ok (.iconst 2, 1) := by decide +kernel
theorem dX5_dayLine_67 : decode cX5_dayLine 67 = .ok (.if_icmp .ne 20, 3) := by decide +kernel
theorem dX5_dayLine_70 : decode cX5_dayLine 70 = .ok (.aload_n 0, 1) := by decide +kernel
theorem dX5_dayLine_71 : decode cX5_dayLine 71 = .ok (.aload_n 2, 1) := by decide +kernel
theorem dX5_dayLine_72 : decode cX5_dayLine 72 = .ok (.iload 4, 2) := by decide +kernel
theorem dX5_dayLine_74 : decode cX5_dayLine 74 = .ok (.invokevirtual 190, 3) := by decide +kernel
theorem dX5_dayLine_77 : decode cX5_dayLine 77 = .ok (.istore 5, 2) := by decide +kernel
theorem dX5_dayLine_79 : decode cX5_dayLine 79 = .ok (.iload 5, 2) := by decide +kernel
theorem dX5_dayLine_81 : decode cX5_dayLine 81 = .ok (.iconst (-1), 1) := by decide +kernel
theorem dX5_dayLine_82 : decode cX5_dayLine 82 = .ok (.if_icmp .ne 5, 3) := by decide +kernel
theorem dX5_dayLine_85 : decode cX5_dayLine 85 = .ok (.iconst 0, 1) := by decide +kernel
theorem dX5_dayLine_86 : decode cX5_dayLine 86 = .ok (.ireturn, 1) := by decide +kernel
theorem dX5_dayLine_87 : decode cX5_dayLine 87 = .ok (.aload_n 1, 1) := by decide +kernel
theorem dX5_dayLine_88 : decode cX5_dayLine 88 = .ok (.iload_n 3, 1) := by decide +kernel
theorem dX5_dayLine_89 : decode cX5_dayLine 89 = .ok (.iload 4, 2) := by decide +kernel
theorem dX5_dayLine_91 : decode cX5_dayLine 91 = .ok (.iload 5, 2) := by decide +kernel
theorem dX5_dayLine_93 : decode cX5_dayLine 93 = .ok (.invokevirtual 194, 3) := by decide +kernel
theorem dX5_dayLine_96 : decode cX5_dayLine 96 = .ok (.aload_n 0, 1) := by decide +kernel
theorem dX5_dayLine_97 : decode cX5_dayLine 97 = .ok (.bipush 59, 2) := by decide +kernel
theorem dX5_dayLine_99 : decode cX5_dayLine 99 = .ok (.invokevirtual 103, 3) := by decide +kernel
theorem dX5_dayLine_102 : decode cX5_dayLine 102 = .ok (.ireturn, 1) := by decide +kernel
theorem dX5_deedWord_0 : decode cX5_deedWord 0 = .ok (.aload_n 0, 1) := by decide +kernel
theorem dX5_deedWord_1 : decode cX5_deedWord 1 = .ok (.getfield 12, 3) := by decide +kernel
theorem dX5_deedWord_4 : decode cX5_deedWord 4 = .ok (.ldc2_w 151, 3) := by decide +kernel
theorem dX5_deedWord_7 : decode cX5_deedWord 7 = .ok (.invokevirtual 57, 3) := by decide +kernel
theorem dX5_deedWord_10 : decode cX5_deedWord 10 = .ok (.ifCond .eq 5, 3) := by decide +kernel
theorem dX5_deedWord_13 : decode cX5_deedWord 13 = .ok (.iconst 0, 1) := by decide +kernel
theorem dX5_deedWord_14 : decode cX5_deedWord 14 = .ok (.ireturn, 1) := by decide +kernel
theorem dX5_deedWord_15 : decode cX5_deedWord 15 = .ok (.aload_n 0, 1) := by decide +kernel
theorem dX5_deedWord_16 : decode cX5_deedWord 16 = .ok (.getfield 12, 3) := by decide +kernel
theorem dX5_deedWord_19 : decode cX5_deedWord 19 = .ok (.ldc2_w 153, 3) := by decide +kernel
theorem dX5_deedWord_22 : decode cX5_deedWord 22 = .ok (.invokevirtual 57, 3) := by decide +kernel
theorem dX5_deedWord_25 : decode cX5_deedWord 25 = .ok (.ifCond .eq 5, 3) := by decide +kernel
theorem dX5_deedWord_28 : decode cX5_deedWord 28 = .ok (.iconst 1, 1) := by decide +kernel
theorem dX5_deedWord_29 : decode cX5_deedWord 29 = .ok (.ireturn, 1) := by decide +kernel
theorem dX5_deedWord_30 : decode cX5_deedWord 30 = .ok (.aload_n 0, 1) := by decide +kernel
theorem dX5_deedWord_31 : decode cX5_deedWord 31 = .ok (.getfield 12, 3) := by decide +kernel
theorem dX5_deedWord_34 : decode cX5_deedWord 34 = .ok (.ldc2_w 155, 3) := by decide +kernel
theorem dX5_deedWord_37 : decode cX5_deedWord 37 = .ok (.invokevirtual 57, 3) := by decide +kernel
theorem dX5_deedWord_40 : decode cX5_deedWord 40 = .ok (.ifCond .eq 5, 3) := by decide +kernel
theorem dX5_deedWord_43 : decode cX5_deedWord 43 = .ok (.iconst 2, 1) := by decide +kernel
theorem dX5_deedWord_44 : decode cX5_deedWord 44 = .ok (.ireturn, 1) := by decide +kernel
theorem dX5_deedWord_45 : decode cX5_deedWord 45 = .ok (.aload_n 0, 1) := by decide +kernel
theorem dX5_deedWord_46 : decode cX5_deedWord 46 = .ok (.getfield 12, 3) := by decide +kernel
theorem dX5_deedWord_49 : decode cX5_deedWord 49 = .ok (.ldc2_w 157, 3) := by decide +kernel
theorem dX5_deedWord_52 : decode cX5_deedWord 52 = .ok (.invokevirtual 57, 3) := by decide +kernel
theorem dX5_deedWord_55 : decode cX5_deedWord 55 = .ok (.ifCond .eq 7, 3) := by decide +kernel
theorem dX5_deedWord_58 : decode cX5_deedWord 58 = .ok (.iconst 3, 1) := by decide +kernel
theorem dX5_deedWord_59 : decode cX5_deedWord 59 = .ok (.goto 4, 3) := by decide +kernel
theorem dX5_deedWord_62 : decode cX5_deedWord 62 = .ok (.iconst (-1), 1) := by decide +kernel
theorem dX5_deedWord_63 : decode cX5_deedWord 63 = .ok (.ireturn, 1) := by decide +kernel
theorem dX5_namedCaller_0 : decode cX5_namedCaller 0 = .ok (.aload_n 0, 1) := by decide +kernel
theorem dX5_namedCaller_1 : decode cX5_namedCaller 1 = .ok (.invokevirtual 167, 3) := by decide +kernel
theorem dX5_namedCaller_4 : decode cX5_namedCaller 4 = .ok (.ifCond .eq 17, 3) := by decide +kernel
theorem dX5_namedCaller_7 : decode cX5_namedCaller 7 = .ok (.aload_n 1, 1) := by decide +kernel
theorem dX5_namedCaller_8 : decode cX5_namedCaller 8 = .ok (.aload_n 0, 1) := by decide +kernel
theorem dX5_namedCaller_9 : decode cX5_namedCaller 9 = .ok (.getfield 12, 3) := by decide +kernel
theorem dX5_namedCaller_12 : decode cX5_namedCaller 12 = .ok (.getfield 72, 3) := by decide +kernel
theorem dX5_namedCaller_15 : decode cX5_namedCaller 15 = .ok (.invokevirtual 171, 3) := by decide +kernel
theorem dX5_namedCaller_18 : decode cX5_namedCaller 18 = .ok (.goto 4, 3) := by decide +kernel
theorem dX5_namedCaller_21 : decode cX5_namedCaller 21 = .ok (.iconst (-1), 1) := by decide +kernel
theorem dX5_namedCaller_22 : decode cX5_namedCaller 22 = .ok (.istore_n 3, 1) := by decide +kernel
theorem dX5_namedCaller_23 : decode cX5_namedCaller 23 = .ok (.iload_n 3, 1) := by decide +kernel
theorem dX5_namedCaller_24 : decode cX5_namedCaller 24 = .ok (.iconst (-1), 1) := by decide +kernel
theorem dX5_namedCaller_25 : decode cX5_namedCaller 25 = .ok (.if_icmp .ne 22, 3) := by decide +kernel
theorem dX5_namedCaller_28 : decode cX5_namedCaller 28 = .ok (.aload_n 0, 1) := by decide +kernel
theorem dX5_namedCaller_29 : decode cX5_namedCaller 29 = .ok (.aload_n 0, 1) := by decide +kernel
theorem dX5_namedCaller_30 : decode cX5_namedCaller 30 = .ok (.invokevirtual 167, 3) := by decide +kernel
theorem dX5_namedCaller_33 : decode cX5_namedCaller 33 = .ok (.ifCond .eq 7, 3) := by decide +kernel
theorem dX5_namedCaller_36 : decode cX5_namedCaller 36 = .ok (.iconst 2, 1) := by decide +kernel
theorem dX5_namedCaller_37 : decode cX5_namedCaller 37 = .ok (.goto 4, 3) := by decide +kernel
theorem dX5_namedCaller_40 : decode cX5_namedCaller 40 = .ok (.iconst 1, 1) := by decide +kernel
theorem dX5_namedCaller_41 : decode cX5_namedCaller 41 = .ok (.invokevirtual 61, 3) := by decide +kernel
theorem dX5_namedCaller_44 : decode cX5_namedCaller 44 = .ok (.pop, 1) := by decide +kernel
theorem dX5_namedCaller_45 : decode cX5_namedCaller 45 = .ok (.iconst (-1), 1) := by decide +kernel
theorem dX5_namedCaller_46 : decode cX5_namedCaller 46 = .ok (.ireturn, 1) := by decide +kernel
theorem dX5_namedCaller_47 : decode cX5_namedCaller 47 = .ok (.iload_n 3, 1) := by decide +kernel
theorem dX5_namedCaller_48 : decode cX5_namedCaller 48 = .ok (.iload_n 2, 1) := by decide +kernel
theorem dX5_namedCaller_49 : decode cX5_namedCaller 49 = .ok (.if_icmp .ne 11, 3) := by decide +kernel
theorem dX5_namedCaller_52 : decode cX5_namedCaller 52 = .ok (.aload_n 0, 1) := by decide +kernel
theorem dX5_namedCaller_53 : decode cX5_namedCaller 53 = .ok (.iconst 3, 1) := by decide +kernel
theorem dX5_namedCaller_54 : decode cX5_namedCaller 54 = .ok (.invokevirtual 61, 3) := by decide +kernel
theorem dX5_namedCaller_57 : decode cX5_namedCaller 57 = .ok (.pop, 1) := by decide +kernel
theorem dX5_namedCaller_58 : decode cX5_namedCaller 58 = .ok (.iconst (-1), 1) := by decide +kernel
theorem dX5_namedCaller_59 : decode cX5_namedCaller 59 = .ok (.ireturn, 1) := by decide +kernel
theorem dX5_namedCaller_60 : decode cX5_namedCaller 60 = .ok (.aload_n 0, 1) := by decide +kernel
theorem dX5_namedCaller_61 : decode cX5_namedCaller 61 = .ok (.getfield 12, 3) := by decide +kernel
theorem dX5_namedCaller_64 : decode cX5_namedCaller 64 = .ok (.invokevirtual 65, 3) := by decide +kernel
theorem dX5_namedCaller_67 : decode cX5_namedCaller 67 = .ok (.iload_n 3, 1) := by decide +kernel
theorem dX5_namedCaller_68 : decode cX5_namedCaller 68 = .ok (.ireturn, 1) := by decide +kernel
theorem dX5_wholeTest_0 : decode cX5_wholeTest 0 = .ok (.aload_n 0, 1) := by decide +kernel
theorem dX5_wholeTest_1 : decode cX5_wholeTest 1 = .ok (.aload_n 1, 1) := by decide +kernel
theorem dX5_wholeTest_2 : decode cX5_wholeTest 2 = .ok (.iload_n 2, 1) := by decide +kernel
theorem dX5_wholeTest_3 : decode cX5_wholeTest 3 = .ok (.invokevirtual 198, 3) := by decide +kernel
theorem dX5_wholeTest_6 : decode cX5_wholeTest 6 = .ok (.istore_n 3, 1) := by decide +kernel
theorem dX5_wholeTest_7 : decode cX5_wholeTest 7 = .ok (.iconst 0, 1) := by decide +kernel
theorem dX5_wholeTest_8 : decode cX5_wholeTest 8 = .ok (.istore 4, 2) := by decide +kernel
theorem dX5_wholeTest_10 : decode cX5_wholeTest 10 = .ok (.iload 4, 2) := by decide +kernel
theorem dX5_wholeTest_12 : decode cX5_wholeTest 12 = .ok (.sipush 1000, 3) := by decide +kernel
theorem dX5_wholeTest_15 : decode cX5_wholeTest 15 = .ok (.if_icmp .ge 62, 3) := by decide +kernel
theorem dX5_wholeTest_18 : decode cX5_wholeTest 18 = .ok (.iload_n 3, 1) := by decide +kernel
theorem dX5_wholeTest_19 : decode cX5_wholeTest 19 = .ok (.ifCond .eq 58, 3) := by decide +kernel
theorem dX5_wholeTest_22 : decode cX5_wholeTest 22 = .ok (.aload_n 0, 1) := by decide +kernel
theorem dX5_wholeTest_23 : decode cX5_wholeTest 23 = .ok (.invokevirtual 201, 3) := by decide +kernel
theorem dX5_wholeTest_26 : decode cX5_wholeTest 26 = .ok (.ifCond .eq 51, 3) := by decide +kernel
theorem dX5_wholeTest_29 : decode cX5_wholeTest 29 = .ok (.aload_n 0, 1) := by decide +kernel
theorem dX5_wholeTest_30 : decode cX5_wholeTest 30 = .ok (.getfield 12, 3) := by decide +kernel
theorem dX5_wholeTest_33 : decode cX5_wholeTest 33 = .ok (.ldc2_w 147, 3) := by decide +kernel
theorem dX5_wholeTest_36 : decode cX5_wholeTest 36 = .ok (.invokevirtual 57, 3) := by decide +kernel
theorem dX5_wholeTest_39 : decode cX5_wholeTest 39 = .ok (.ifCond .eq 8, 3) := by decide +kernel
theorem dX5_wholeTest_42 : decode cX5_wholeTest 42 = .ok (.bipush (-6), 2) := by decide +kernel
theorem dX5_wholeTest_44 : decode cX5_wholeTest 44 = .ok (.goto 5, 3) := by decide +kernel
theorem dX5_wholeTest_47 : decode cX5_wholeTest 47 = .ok (.bipush (-7), 2) := by decide +kernel
theorem dX5_wholeTest_49 : decode cX5_wholeTest 49 = .ok (.istore 5, 2) := by decide +kernel
theorem dX5_wholeTest_51 : decode cX5_wholeTest 51 = .ok (.aload_n 0, 1) := by decide +kernel
theorem dX5_wholeTest_52 : decode cX5_wholeTest 52 = .ok (.getfield 12, 3) := by decide +kernel
theorem dX5_wholeTest_55 : decode cX5_wholeTest 55 = .ok (.invokevirtual 65, 3) := by decide +kernel
theorem dX5_wholeTest_58 : decode cX5_wholeTest 58 = .ok (.aload_n 0, 1) := by decide +kernel
theorem dX5_wholeTest_59 : decode cX5_wholeTest 59 = .ok (.aload_n 1, 1) := by decide +kernel
theorem dX5_wholeTest_60 : decode cX5_wholeTest 60 = .ok (.iload_n 2, 1) := by decide +kernel
theorem dX5_wholeTest_61 : decode cX5_wholeTest 61 = .ok (.invokevirtual 198, 3) := by decide +kernel
theorem dX5_wholeTest_64 : decode cX5_wholeTest 64 = .ok (.istore_n 3, 1) := by decide +kernel
theorem dX5_wholeTest_65 : decode cX5_wholeTest 65 = .ok (.aload_n 1, 1) := by decide +kernel
theorem dX5_wholeTest_66 : decode cX5_wholeTest 66 = .ok (.iload 5, 2) := by decide +kernel
theorem dX5_wholeTest_68 : decode cX5_wholeTest 68 = .ok (.invokevirtual 206, 3) := by decide +kernel
theorem dX5_wholeTest_71 : decode cX5_wholeTest 71 = .ok (.iinc 4 1, 3) := by decide +kernel
theorem dX5_wholeTest_74 : decode cX5_wholeTest 74 = .ok (.goto (-64), 3) := by decide +kernel
theorem dX5_wholeTest_77 : decode cX5_wholeTest 77 = .ok (.iload_n 3, 1) := by decide +kernel
theorem dX5_wholeTest_78 : decode cX5_wholeTest 78 = .ok (.ireturn, 1) := by decide +kernel
theorem dX5_isJoin_0 : decode cX5_isJoin 0 = .ok (.aload_n 0, 1) := by decide +kernel
theorem dX5_isJoin_1 : decode cX5_isJoin 1 = .ok (.getfield 12, 3) := by decide +kernel
theorem dX5_isJoin_4 : decode cX5_isJoin 4 = .ok (.ldc2_w 147, 3) := by decide +kernel
theorem dX5_isJoin_7 : decode cX5_isJoin 7 = .ok (.invokevirtual 57, 3) := by decide +kernel
theorem dX5_isJoin_10 : decode cX5_isJoin 10 = .ok (.ifCond .ne 16, 3) := by decide +kernel
theorem dX5_isJoin_13 : decode cX5_isJoin 13 = .ok (.aload_n 0, 1) := by decide +kernel
theorem dX5_isJoin_14 : decode cX5_isJoin 14 = .ok (.getfield 12, 3) := by decide +kernel
theorem dX5_isJoin_17 : decode cX5_isJoin 17 = .ok (.ldc2_w 149, 3) := by decide +kernel
theorem dX5_isJoin_20 : decode cX5_isJoin 20 = .ok (.invokevirtual 57, 3) := by decide +kernel
theorem dX5_isJoin_23 : decode cX5_isJoin 23 = .ok (.ifCond .eq 7, 3) := by decide +kernel
theorem dX5_isJoin_26 : decode cX5_isJoin 26 = .ok (.iconst 1, 1) := by decide +kernel
theorem dX5_isJoin_27 : decode cX5_isJoin 27 = .ok (.goto 4, 3) := by decide +kernel
theorem dX5_isJoin_30 : decode cX5_isJoin 30 = .ok (.iconst 0, 1) := by decide +kernel
theorem dX5_isJoin_31 : decode cX5_isJoin 31 = .ok (.ireturn, 1) := by decide +kernel
theorem dX5_test_0 : decode cX5_test 0 = .ok (.aload_n 0, 1) := by decide +kernel
theorem dX5_test_1 : decode cX5_test 1 = .ok (.aload_n 1, 1) := by decide +kernel
theorem dX5_test_2 : decode cX5_test 2 = .ok (.iload_n 2, 1) := by decide +kernel
theorem dX5_test_3 : decode cX5_test 3 = .ok (.invokevirtual 209, 3) := by decide +kernel
theorem dX5_test_6 : decode cX5_test 6 = .ok (.ifCond .ne 5, 3) := by decide +kernel
theorem dX5_test_9 : decode cX5_test 9 = .ok (.iconst 0, 1) := by decide +kernel
theorem dX5_test_10 : decode cX5_test 10 = .ok (.ireturn, 1) := by decide +kernel
theorem dX5_test_11 : decode cX5_test 11 = .ok (.aload_n 0, 1) := by decide +kernel
theorem dX5_test_12 : decode cX5_test 12 = .ok (.getfield 12, 3) := by decide +kernel
theorem dX5_test_15 : decode cX5_test 15 = .ok (.bipush 60, 2) := by decide +kernel
theorem dX5_test_17 : decode cX5_test 17 = .ok (.invokevirtual 68, 3) := by decide +kernel
theorem dX5_test_20 : decode cX5_test 20 = .ok (.ifCond .ne 17, 3) := by decide +kernel
theorem dX5_test_23 : decode cX5_test 23 = .ok (.aload_n 0, 1) := by decide +kernel
theorem dX5_test_24 : decode cX5_test 24 = .ok (.getfield 12, 3) := by decide +kernel
theorem dX5_test_27 : decode cX5_test 27 = .ok (.bipush 61, 2) := by decide +kernel
theorem dX5_test_29 : decode cX5_test 29 = .ok (.invokevirtual 68, 3) := by decide +kernel
theorem dX5_test_32 : decode cX5_test 32 = .ok (.ifCond .ne 5, 3) := by decide +kernel
theorem dX5_test_35 : decode cX5_test 35 = .ok (.iconst 1, 1) := by decide +kernel
theorem dX5_test_36 : decode cX5_test 36 = .ok (.ireturn, 1) := by decide +kernel
theorem dX5_test_37 : decode cX5_test 37 = .ok (.aload_n 0, 1) := by decide +kernel
theorem dX5_test_38 : decode cX5_test 38 = .ok (.getfield 12, 3) := by decide +kernel
theorem dX5_test_41 : decode cX5_test 41 = .ok (.bipush 60, 2) := by decide +kernel
theorem dX5_test_43 : decode cX5_test 43 = .ok (.invokevirtual 68, 3) := by decide +kernel
theorem dX5_test_46 : decode cX5_test 46 = .ok (.ifCond .eq 8, 3) := by decide +kernel
theorem dX5_test_49 : decode cX5_test 49 = .ok (.bipush (-8), 2) := by decide +kernel
theorem dX5_test_51 : decode cX5_test 51 = .ok (.goto 5, 3) := by decide +kernel
theorem dX5_test_54 : decode cX5_test 54 = .ok (.bipush (-9), 2) := by decide +kernel
theorem dX5_test_56 : decode cX5_test 56 = .ok (.istore_n 3, 1) := by decide +kernel
theorem dX5_test_57 : decode cX5_test 57 = .ok (.aload_n 0, 1) := by decide +kernel
theorem dX5_test_58 : decode cX5_test 58 = .ok (.getfield 12, 3) := by decide +kernel
theorem dX5_test_61 : decode cX5_test 61 = .ok (.invokevirtual 65, 3) := by decide +kernel
theorem dX5_test_64 : decode cX5_test 64 = .ok (.aload_n 0, 1) := by decide +kernel
theorem dX5_test_65 : decode cX5_test 65 = .ok (.aload_n 1, 1) := by decide +kernel
theorem dX5_test_66 : decode cX5_test 66 = .ok (.iload_n 2, 1) := by decide +kernel
theorem dX5_test_67 : decode cX5_test 67 = .ok (.invokevirtual 209, 3) := by decide +kernel
theorem dX5_test_70 : decode cX5_test 70 = .ok (.istore 4, 2) := by decide +kernel
theorem dX5_test_72 : decode cX5_test 72 = .ok (.aload_n 1, 1) := by decide +kernel
theorem dX5_test_73 : decode cX5_test 73 = .ok (.iload_n 3, 1) := by decide +kernel
theorem dX5_test_74 : decode cX5_test 74 = .ok (.invokevirtual 206, 3) := by decide +kernel
theorem dX5_test_77 : decode cX5_test 77 = .ok (.iload 4, 2) := by decide +kernel
theorem dX5_test_79 : decode cX5_test 79 = .ok (.ireturn, 1) := by decide +kernel
theorem dX5_sum_0 : decode cX5_sum 0 = .ok (.aload_n 0, 1) := by decide +kernel
theorem dX5_sum_1 : decode cX5_sum 1 = .ok (.aload_n 1, 1) := by decide +kernel
theorem dX5_sum_2 : decode cX5_sum 2 = .ok (.iload_n 2, 1) := by decide +kernel
theorem dX5_sum_3 : decode cX5_sum 3 = .ok (.invokevirtual 212, 3) := by decide +kernel
theorem dX5_sum_6 : decode cX5_sum 6 = .ok (.istore_n 3, 1) := by decide +kernel
theorem dX5_sum_7 : decode cX5_sum 7 = .ok (.iconst 0, 1) := by decide +kernel
theorem dX5_sum_8 : decode cX5_sum 8 = .ok (.istore 4, 2) := by decide +kernel
theorem dX5_sum_10 : decode cX5_sum 10 = .ok (.iload 4, 2) := by decide +kernel
theorem dX5_sum_12 : decode cX5_sum 12 = .ok (.sipush 1000, 3) := by decide +kernel
theorem dX5_sum_15 : decode cX5_sum 15 = .ok (.if_icmp .ge 78, 3) := by decide +kernel
theorem dX5_sum_18 : decode cX5_sum 18 = .ok (.iload_n 3, 1) := by decide +kernel
theorem dX5_sum_19 : decode cX5_sum 19 = .ok (.ifCond .eq 74, 3) := by decide +kernel
theorem dX5_sum_22 : decode cX5_sum 22 = .ok (.aload_n 0, 1) := by decide +kernel
theorem dX5_sum_23 : decode cX5_sum 23 = .ok (.getfield 12, 3) := by decide +kernel
theorem dX5_sum_26 : decode cX5_sum 26 = .ok (.bipush 43, 2) := by decide +kernel
theorem dX5_sum_28 : decode cX5_sum 28 = .ok (.invokevirtual 68, 3) := by decide +kernel
theorem dX5_sum_31 : decode cX5_sum 31 = .ok (.ifCond .ne 15, 3) := by decide +kernel
theorem dX5_sum_34 : decode cX5_sum 34 = .ok (.aload_n 0, 1) := by decide +kernel
theorem dX5_sum_35 : decode cX5_sum 35 = .ok (.getfield 12, 3) := by decide +kernel
theorem dX5_sum_38 : decode cX5_sum 38 = .ok (.bipush 45, 2) := by decide +kernel
theorem dX5_sum_40 : decode cX5_sum 40 = .ok (.invokevirtual 68, 3) := by decide +kernel
theorem dX5_sum_43 : decode cX5_sum 43 = .ok (.ifCond .eq 50, 3) := by decide +kernel
theorem dX5_sum_46 : decode cX5_sum 46 = .ok (.aload_n 0, 1) := by decide +kernel
theorem dX5_sum_47 : decode cX5_sum 47 = .ok (.getfield 12, 3) := by decide +kernel
theorem dX5_sum_50 : decode cX5_sum 50 = .ok (.bipush 43, 2) := by decide +kernel
theorem dX5_sum_52 : decode cX5_sum 52 = .ok (.invokevirtual 68, 3) := by decide +kernel
theorem dX5_sum_55 : decode cX5_sum 55 = .ok (.ifCond .eq 8, 3) := by decide +kernel
theorem dX5_sum_58 : decode cX5_sum 58 = .ok (.bipush (-10), 2) := by decide +kernel
theorem dX5_sum_60 : decode cX5_sum 60 = .ok (.goto 5, 3) := by decide +kernel
theorem dX5_sum_63 : decode cX5_sum 63 = .ok (.bipush (-11), 2) := by decide +kernel
theorem dX5_sum_65 : decode cX5_sum 65 = .ok (.istore 5, 2) := by decide +kernel
theorem dX5_sum_67 : decode cX5_sum 67 = .ok (.aload_n 0, 1) := by decide +kernel
theorem dX5_sum_68 : decode cX5_sum 68 = .ok (.getfield 12, 3) := by decide +kernel
theorem dX5_sum_71 : decode cX5_sum 71 = .ok (.invokevirtual 65, 3) := by decide +kernel
theorem dX5_sum_74 : decode cX5_sum 74 = .ok (.aload_n 0, 1) := by decide +kernel
theorem dX5_sum_75 : decode cX5_sum 75 = .ok (.aload_n 1, 1) := by decide +kernel
theorem dX5_sum_76 : decode cX5_sum 76 = .ok (.iload_n 2, 1) := by decide +kernel
theorem dX5_sum_77 : decode cX5_sum 77 = .ok (.invokevirtual 212, 3) := by decide +kernel
theorem dX5_sum_80 : decode cX5_sum 80 = .ok (.istore_n 3, 1) := by decide +kernel
theorem dX5_sum_81 : decode cX5_sum 81 = .ok (.aload_n 1, 1) := by decide +kernel
theorem dX5_sum_82 : decode cX5_sum 82 = .ok (.iload 5, 2) := by decide +kernel
theorem dX5_sum_84 : decode cX5_sum 84 = .ok (.invokevirtual 206, 3) := by decide +kernel
theorem dX5_sum_87 : decode cX5_sum 87 = .ok (.iinc 4 1, 3) := by decide +kernel
theorem dX5_sum_90 : decode cX5_sum 90 = .ok (.goto (-80), 3) := by decide +kernel
theorem dX5_sum_93 : decode cX5_sum 93 = .ok (.iload_n 3, 1) := by decide +kernel
theorem dX5_sum_94 : decode cX5_sum 94 = .ok (.ireturn, 1) := by decide +kernel
theorem dX5_product_0 : decode cX5_product 0 = .ok (.aload_n 0, 1) := by decide +kernel
theorem dX5_product_1 : decode cX5_product 1 = .ok (.aload_n 1, 1) := by decide +kernel
theorem dX5_product_2 : decode cX5_product 2 = .ok (.iload_n 2, 1) := by decide +kernel
theorem dX5_product_3 : decode cX5_product 3 = .ok (.invokevirtual 215, 3) := by decide +kernel
theorem dX5_product_6 : decode cX5_product 6 = .ok (.istore_n 3, 1) := by decide +kernel
theorem dX5_product_7 : decode cX5_product 7 = .ok (.iconst 0, 1) := by decide +kernel
theorem dX5_product_8 : decode cX5_product 8 = .ok (.istore 4, 2) := by decide +kernel
theorem dX5_product_10 : decode cX5_product 10 = .ok (.iload 4, 2) := by decide +kernel
theorem dX5_product_12 : decode cX5_product 12 = .ok (.sipush 1000, 3) := by decide +kernel
theorem dX5_product_15 : decode cX5_product 15 = .ok (.if_icmp .ge 45, 3) := by decide +kernel
theorem dX5_product_18 : decode cX5_product 18 = .ok (.iload_n 3, 1) := by decide +kernel
theorem dX5_product_19 : decode cX5_product 19 = .ok (.ifCond .eq 41, 3) := by decide +kernel
theorem dX5_product_22 : decode cX5_product 22 = .ok (.aload_n 0, 1) := by decide +kernel
theorem dX5_product_23 : decode cX5_product 23 = .ok (.getfield 12, 3) := by decide +kernel
theorem dX5_product_26 : decode cX5_product 26 = .ok (.bipush 42, 2) := by decide +kernel
theorem dX5_product_28 : decode cX5_product 28 = .ok (.invokevirtual 68, 3) := by decide +kernel
theorem dX5_product_31 : decode cX5_product 31 = .ok (.ifCond .eq 29, 3) := by decide +kernel
theorem dX5_product_34 : decode cX5_product 34 = .ok (.aload_n 0, 1) := by decide +kernel
theorem dX5_product_35 : decode cX5_product 35 = .ok (.getfield 12, 3) := by decide +kernel
theorem dX5_product_38 : decode cX5_product 38 = .ok (.invokevirtual 65, 3) := by decide +kernel
theorem dX5_product_41 : decode cX5_product 41 = .ok (.aload_n 0, 1) := by decide +kernel
theorem dX5_product_42 : decode cX5_product 42 = .ok (.aload_n 1, 1) := by decide +kernel
theorem dX5_product_43 : decode cX5_product 43 = .ok (.iload_n 2, 1) := by decide +kernel
theorem dX5_product_44 : decode cX5_product 44 = .ok (.invokevirtual 215, 3) := by decide +kernel
theorem dX5_product_47 : decode cX5_product 47 = .ok (.istore_n 3, 1) := by decide +kernel
theorem dX5_product_48 : decode cX5_product 48 = .ok (.aload_n 1, 1) := by decide +kernel
theorem dX5_product_49 : decode cX5_product 49 = .ok (.bipush (-12), 2) := by decide +kernel
theorem dX5_product_51 : decode cX5_product 51 = .ok (.invokevirtual 206, 3) := by decide +kernel
theorem dX5_product_54 : decode cX5_product 54 = .ok (.iinc 4 1, 3) := by decide +kernel
theorem dX5_product_57 : decode cX5_product 57 = .ok (.goto (-47), 3) := by decide +kernel
theorem dX5_product_60 : decode cX5_product 60 = .ok (.iload_n 3, 1) := by decide +kernel
theorem dX5_product_61 : decode cX5_product 61 = .ok (.ireturn, 1) := by decide +kernel
theorem dX5_part_0 : decode cX5_part 0 = .ok (.aload_n 0, 1) := by decide +kernel
theorem dX5_part_1 : decode cX5_part 1 = .ok (.getfield 12, 3) := by decide +kernel
theorem dX5_part_4 : decode cX5_part 4 = .ok (.bipush 40, 2) := by decide +kernel
theorem dX5_part_6 : decode cX5_part 6 = .ok (.invokevirtual 68, 3) := by decide +kernel
theorem dX5_part_9 : decode cX5_part 9 = .ok (.istore_n 3, 1) := by decide +kernel
theorem dX5_part_10 : decode cX5_part 10 = .ok (.aload_n 0, 1) := by decide +kernel
theorem dX5_part_11 : decode cX5_part 11 = .ok (.getfield 12, 3) := by decide +kernel
theorem dX5_part_14 : decode cX5_part 14 = .ok (.ldc2_w 145, 3) := by decide +kernel
theorem dX5_part_17 : decode cX5_part 17 = .ok (.invokevirtual 57, 3) := by decide +kernel
theorem dX5_part_20 : decode cX5_part 20 = .ok (.istore 4, 2) := by decide +kernel
theorem dX5_part_22 : decode cX5_part 22 = .ok (.aload_n 0, 1) := by decide +kernel
theorem dX5_part_23 : decode cX5_part 23 = .ok (.invokevirtual 218, 3) := by decide +kernel
theorem dX5_part_26 : decode cX5_part 26 = .ok (.istore 5, 2) := by decide +kernel
theorem dX5_part_28 : decode cX5_part 28 = .ok (.iload_n 3, 1) := by decide +kernel
theorem dX5_part_29 : decode cX5_part 29 = .ok (.ifCond .ne 21, 3) := by decide +kernel
theorem dX5_part_32 : decode cX5_part 32 = .ok (.iload 4, 2) := by decide +kernel
theorem dX5_part_34 : decode cX5_part 34 = .ok (.ifCond .ne 16, 3) := by decide +kernel
theorem dX5_part_37 : decode cX5_part 37 = .ok (.iload 5, 2) := by decide +kernel
theorem dX5_part_39 : decode cX5_part 39 = .ok (.bipush (-13), 2) := by decide +kernel
theorem dX5_part_41 : decode cX5_part 41 = .ok (.if_icmp .ne 9, 3) := by decide +kernel
theorem dX5_part_44 : decode cX5_part 44 = .ok (.aload_n 0, 1) := by decide +kernel
theorem dX5_part_45 : decode cX5_part 45 = .ok (.iconst 1, 1) := by decide +kernel
theorem dX5_part_46 : decode cX5_part 46 = .ok (.invokevirtual 61, 3) := by decide +kernel
theorem dX5_part_49 : decode cX5_part 49 = .ok (.ireturn, 1) := by decide +kernel
theorem dX5_part_50 : decode cX5_part 50 = .ok (.iload_n 2, 1) := by decide +kernel
theorem dX5_part_51 : decode cX5_part 51 = .ok (.iconst 5, 1) := by decide +kernel
theorem dX5_part_52 : decode cX5_part 52 = .ok (.if_icmp .lt 9, 3) := by decide +kernel
theorem dX5_part_55 : decode cX5_part 55 = .ok (.aload_n 0, 1) := by decide +kernel
theorem dX5_part_56 : decode cX5_part 56 = .ok (.iconst 5, 1) := by decide +kernel
theorem dX5_part_57 : decode cX5_part 57 = .ok (.invokevirtual 61, 3) := by decide +kernel
theorem dX5_part_60 : decode cX5_part 60 = .ok (.ireturn, 1) := by decide +kernel
theorem dX5_part_61 : decode cX5_part 61 = .ok (.aload_n 0, 1) := by decide +kernel
theorem dX5_part_62 : decode cX5_part 62 = .ok (.getfield 12, 3) := by decide +kernel
theorem dX5_part_65 : decode cX5_part 65 = .ok (.invokevirtual 65, 3) := by decide +kernel
theorem dX5_part_68 : decode cX5_part 68 = .ok (.iload_n 3, 1) := by decide +kernel
theorem dX5_part_69 : decode cX5_part 69 = .ok (.ifCond .eq 29, 3) := by decide +kernel
theorem dX5_part_72 : decode cX5_part 72 = .ok (.aload_n 0, 1) := by decide +kernel
theorem dX5_part_73 : decode cX5_part 73 = .ok (.aload_n 1, 1) := by decide +kernel
theorem dX5_part_74 : decode cX5_part 74 = .ok (.iload_n 2, 1) := by decide +kernel
theorem dX5_part_75 : decode cX5_part 75 = .ok (.iconst 1, 1) := by decide +kernel
theorem dX5_part_76 : decode cX5_part 76 = .ok (.iadd, 1) := by decide +kernel
theorem dX5_part_77 : decode cX5_part 77 = .ok (.invokevirtual 99, 3) := by decide +kernel
theorem dX5_part_80 : decode cX5_part 80 = .ok (.ifCond .eq 16, 3) := by decide +kernel
theorem dX5_part_83 : decode cX5_part 83 = .ok (.aload_n 0, 1) := by decide +kernel
theorem dX5_part_84 : decode cX5_part 84 = .ok (.bipush 41, 2) := by decide +kernel
theorem dX5_part_86 : decode cX5_part 86 = .ok (.invokevirtual 103, 3) := by decide +kernel
theorem dX5_part_89 : decode cX5_part 89 = .ok (.ifCond .eq 7, 3) := by decide +kernel
theorem dX5_part_92 : decode cX5_part 92 = .ok (.iconst 1, 1) := by decide +kernel
theorem dX5_part_93 : decode cX5_part 93 = .ok (.goto 4, 3) := by decide +kernel
theorem dX5_part_96 : decode cX5_part 96 = .ok (.iconst 0, 1) := by decide +kernel
theorem dX5_part_97 : decode cX5_part 97 = .ok (.ireturn, 1) := by decide +kernel
theorem dX5_part_98 : decode cX5_part 98 = .ok (.iload 4, 2) := by decide +kernel
theorem dX5_part_100 : decode cX5_part 100 = .ok (.ifCond .eq 14, 3) := by decide +kernel
theorem dX5_part_103 : decode cX5_part 103 = .ok (.aload_n 0, 1) := by decide +kernel
theorem dX5_part_104 : decode cX5_part 104 = .ok (.aload_n 1, 1) := by decide +kernel
theorem dX5_part_105 : decode cX5_part 105 = .ok (.iload_n 2, 1) := by decide +kernel
theorem dX5_part_106 : decode cX5_part 106 = .ok (.iconst 1, 1) := by decide +kernel
theorem dX5_part_107 : decode cX5_part 107 = .ok (.iadd, 1) := by decide +kernel
theorem dX5_part_108 : decode cX5_part 108 = .ok (.invokevirtual 215, 3) := by decide +kernel
theorem dX5_part_111 : decode cX5_part 111 = .ok (.ifCond .eq 7, 3) := by decide +kernel
theorem dX5_part_114 : decode cX5_part 114 = .ok (.iconst 1, 1) := by decide +kernel
theorem dX5_part_115 : decode cX5_part 115 = .ok (.goto 4, 3) := by decide +kernel
theorem dX5_part_118 : decode cX5_part 118 = .ok (.iconst 0, 1) := by decide +kernel
theorem dX5_part_119 : decode cX5_part 119 = .ok (.istore 6, 2) := by decide +kernel
theorem dX5_part_121 : decode cX5_part 121 = .ok (.aload_n 1, 1) := by decide +kernel
theorem dX5_part_122 : decode cX5_part 122 = .ok (.iload 4, 2) := by decide +kernel
theorem dX5_part_124 : decode cX5_part 124 = .ok (.ifCond .eq 8, 3) := by decide +kernel
theorem dX5_part_127 : decode cX5_part 127 = .ok (.bipush (-5), 2) := by decide +kernel
theorem dX5_part_129 : decode cX5_part 129 = .ok (.goto 5, 3) := by decide +kernel
theorem dX5_part_132 : decode cX5_part 132 = .ok (.iload 5, 2) := by decide +kernel
theorem dX5_part_134 : decode cX5_part 134 = .ok (.invokevirtual 206, 3) := by decide +kernel
theorem dX5_part_137 : decode cX5_part 137 = .ok (.iload 6, 2) := by decide +kernel
theorem dX5_part_139 : decode cX5_part 139 = .ok (.ireturn, 1) := by decide +kernel
theorem dX5_givenPart_0 : decode cX5_givenPart 0 = .ok (.aload_n 0, 1) := by decide +kernel
theorem dX5_givenPart_1 : decode cX5_givenPart 1 = .ok (.getfield 12, 3) := by decide +kernel
theorem dX5_givenPart_4 : decode cX5_givenPart 4 = .ok (.getfield 37, 3) := by decide +kernel
theorem dX5_givenPart_7 : decode cX5_givenPart 7 = .ok (.iconst 3, 1) := by decide +kernel
theorem dX5_givenPart_8 : decode cX5_givenPart 8 = .ok (.if_icmp .ne 12, 3) := by decide +kernel
theorem dX5_givenPart_11 : decode cX5_givenPart 11 = .ok (.aload_n 0, 1) := by decide +kernel
theorem dX5_givenPart_12 : decode cX5_givenPart 12 = .ok (.getfield 12, 3) := by decide +kernel
theorem dX5_givenPart_15 : decode cX5_givenPart 15 = .ok (.getfield 72, 3) := by decide +kernel
theorem dX5_givenPart_18 : decode cX5_givenPart 18 = .ok (.l2i, 1) := by decide +kernel
theorem dX5_givenPart_19 : decode cX5_givenPart 19 = .ok (.ireturn, 1) := by decide +kernel
theorem dX5_givenPart_20 : decode cX5_givenPart 20 = .ok (.aload_n 0, 1) := by decide +kernel
theorem dX5_givenPart_21 : decode cX5_givenPart 21 = .ok (.getfield 12, 3) := by decide +kernel
theorem dX5_givenPart_24 : decode cX5_givenPart 24 = .ok (.ldc2_w 221, 3) := by decide +kernel
theorem dX5_givenPart_27 : decode cX5_givenPart 27 = .ok (.invokevirtual 57, 3) := by decide +kernel
theorem dX5_givenPart_30 : decode cX5_givenPart 30 = .ok (.ifCond .eq 5, 3) := by decide +kernel
theorem dX5_givenPart_33 : decode cX5_givenPart 33 = .ok (.iconst (-1), 1) := by decide +kernel
theorem dX5_givenPart_34 : decode cX5_givenPart 34 = .ok (.ireturn, 1) := by decide +kernel
theorem dX5_givenPart_35 : decode cX5_givenPart 35 = .ok (.aload_n 0, 1) := by decide +kernel
theorem dX5_givenPart_36 : decode cX5_givenPart 36 = .ok (.getfield 12, 3) := by decide +kernel
theorem dX5_givenPart_39 : decode cX5_givenPart 39 = .ok (.ldc2_w 223, 3) := by decide +kernel
theorem dX5_givenPart_42 : decode cX5_givenPart 42 = .ok (.invokevirtual 57, 3) := by decide +kernel
theorem dX5_givenPart_45 : decode cX5_givenPart 45 = .ok (.ifCond .eq 6, 3) := by decide +kernel
theorem dX5_givenPart_48 : decode cX5_givenPart 48 = .ok (.bipush (-2), 2) := by decide +kernel
theorem dX5_givenPart_50 : decode cX5_givenPart 50 = .ok (.ireturn, 1) := by decide +kernel
theorem dX5_givenPart_51 : decode cX5_givenPart 51 = .ok (.aload_n 0, 1) := by decide +kernel
theorem dX5_givenPart_52 : decode cX5_givenPart 52 = .ok (.getfield 12, 3) := by decide +kernel
theorem dX5_givenPart_55 : decode cX5_givenPart 55 = .ok (.ldc2_w 225, 3) := by decide +kernel
theorem dX5_givenPart_58 : decode cX5_givenPart 58 = .ok (.invokevirtual 57, 3) := by decide +kernel
theorem dX5_givenPart_61 : decode cX5_givenPart 61 = .ok (.ifCond .eq 6, 3) := by decide +kernel
theorem dX5_givenPart_64 : decode cX5_givenPart 64 = .ok (.bipush (-3), 2) := by decide +kernel
theorem dX5_givenPart_66 : decode cX5_givenPart 66 = .ok (.ireturn, 1) := by decide +kernel
theorem dX5_givenPart_67 : decode cX5_givenPart 67 = .ok (.aload_n 0, 1) := by decide +kernel
theorem dX5_givenPart_68 : decode cX5_givenPart 68 = .ok (.getfield 12, 3) := by decide +kernel
theorem dX5_givenPart_71 : decode cX5_givenPart 71 = .ok (.ldc2_w 227, 3) := by decide +kernel
theorem dX5_givenPart_74 : decode cX5_givenPart 74 = .ok (.invokevirtual 57, 3) := by decide +kernel
theorem dX5_givenPart_77 : decode cX5_givenPart 77 = .ok (.ifCond .eq 8, 3) := by decide +kernel
theorem dX5_givenPart_80 : decode cX5_givenPart 80 = .ok (.bipush (-4), 2) := by decide +kernel
theorem dX5_givenPart_82 : decode cX5_givenPart 82 = .ok (.goto 5, 3) := by decide +kernel
theorem dX5_givenPart_85 : decode cX5_givenPart 85 = .ok (.bipush (-13), 2) := by decide +kernel
theorem dX5_givenPart_87 : decode cX5_givenPart 87 = .ok (.ireturn, 1) := by decide +kernel
theorem dX6_init_0 : decode cX6_init 0 = .ok (.aload_n 0, 1) := by decide +kernel
theorem dX6_init_1 : decode cX6_init 1 = .ok (.invokespecial 3, 3) := by decide +kernel
theorem dX6_init_4 : decode cX6_init 4 = .ok (.aload_n 0, 1) := by decide +kernel
theorem dX6_init_5 : decode cX6_init 5 = .ok (.bipush 6, 2) := by decide +kernel
theorem dX6_init_7 : decode cX6_init 7 = .ok (.newarray .int, 2) := by decide +kernel
theorem dX6_init_9 : decode cX6_init 9 = .ok (.putfield 9, 3) := by decide +kernel
theorem dX6_init_12 : decode cX6_init 12 = .ok (.aload_n 0, 1) := by decide +kernel
theorem dX6_init_13 : decode cX6_init 13 = .ok (.bipush 6, 2) := by decide +kernel
theorem dX6_init_15 : decode cX6_init 15 = .ok (.newarray .int, 2) := by decide +kernel
theorem dX6_init_17 : decode cX6_init 17 = .ok (.putfield 15, 3) := by decide +kernel
theorem dX6_init_20 : decode cX6_init 20 = .ok (.return_, 1) := by decide +kernel
theorem dX6_begin_0 : decode cX6_begin 0 = .ok (.aload_n 0, 1) := by decide +kernel
theorem dX6_begin_1 : decode cX6_begin 1 = .ok (.iconst 0, 1) := by decide +kernel
theorem dX6_begin_2 : decode cX6_begin 2 = .ok (.putfield 18, 3) := by decide +kernel
theorem dX6_begin_5 : decode cX6_begin 5 = .ok (.aload_n 0, 1) := by decide +kernel
theorem dX6_begin_6 : decode cX6_begin 6 = .ok (.iconst (-1), 1) := by decide +kernel
theorem dX6_begin_7 : decode cX6_begin 7 = .ok (.putfield 22, 3) := by decide +kernel
theorem dX6_begin_10 : decode cX6_begin 10 = .ok (.aload_n 0, 1) := by decide +kernel
theorem dX6_begin_11 : decode cX6_begin 11 = .ok (.iconst 0, 1) := by decide +kernel
theorem dX6_begin_12 : decode cX6_begin 12 = .ok (.putfield 25, 3) := by decide +kernel
theorem dX6_begin_15 : decode cX6_begin 15 = .ok (.iconst 0, 1) := by decide +kernel
theorem dX6_begin_16 : decode cX6_begin 16 = .ok (.istore_n 2, 1) := by decide +kernel
theorem dX6_begin_17 : decode cX6_begin 17 = .ok (.iload_n 2, 1) := by decide +kernel
theorem dX6_begin_18 : decode cX6_begin 18 = .ok (.bipush 6, 2) := by decide +kernel
theorem dX6_begin_20 : decode cX6_begin 20 = .ok (.if_icmp .ge 38, 3) := by decide +kernel
theorem dX6_begin_23 : decode cX6_begin 23 = .ok (.iload_n 1, 1) := by decide +kernel
theorem dX6_begin_24 : decode cX6_begin 24 = .ok (.iload_n 2, 1) := by decide +kernel
theorem dX6_begin_25 : decode cX6_begin 25 = .ok (.ishr, 1) := by decide +kernel
theorem dX6_begin_26 : decode cX6_begin 26 = .ok (.iconst 1, 1) := by decide +kernel
theorem dX6_begin_27 : decode cX6_begin 27 = .ok (.iand, 1) := by decide +kernel
theorem dX6_begin_28 : decode cX6_begin 28 = .ok (.iconst 1, 1) := by decide +kernel
theorem dX6_begin_29 : decode cX6_begin 29 = .ok (.if_icmp .ne 23, 3) := by decide +kernel
theorem dX6_begin_32 : decode cX6_begin 32 = .ok (.aload_n 0, 1) := by decide +kernel
theorem dX6_begin_33 : decode cX6_begin 33 = .ok (.getfield 9, 3) := by decide +kernel
theorem dX6_begin_36 : decode cX6_begin 36 = .ok (.aload_n 0, 1) := by decide +kernel
theorem dX6_begin_37 : decode cX6_begin 37 = .ok (.getfield 18, 3) := by decide +kernel
theorem dX6_begin_40 : decode cX6_begin 40 = .ok (.iload_n 2, 1) := by decide +kernel
theorem dX6_begin_41 : decode cX6_begin 41 = .ok (.iastore, 1) := by decide +kernel
theorem dX6_begin_42 : decode cX6_begin 42 = .ok (.aload_n 0, 1) := by decide +kernel
theorem dX6_begin_43 : decode cX6_begin 43 = .ok (.dup, 1) := by decide +kernel
theorem dX6_begin_44 : decode cX6_begin 44 = .ok (.getfield 18, 3) := by decide +kernel
theorem dX6_begin_47 : decode cX6_begin 47 = .ok (.iconst 1, 1) := by decide +kernel
theorem dX6_begin_48 : decode cX6_begin 48 = .ok (.iadd, 1) := by decide +kernel
theorem dX6_begin_49 : decode cX6_begin 49 = .ok (.putfield 18, 3) := by decide +kernel
theorem dX6_begin_52 : decode cX6_begin 52 = .ok (.iinc 2 1, 3) := by decide +kernel
theorem dX6_begin_55 : decode cX6_begin 55 = .ok (.goto (-38), 3) := by decide +kernel
theorem dX6_begin_58 : decode cX6_begin 58 = .ok (.return_, 1) := by decide +kernel
theorem dX6_weigh_0 : decode cX6_weigh 0 = .ok (.iload_n 1, 1) := by decide +kernel
theorem dX6_weigh_1 : decode cX6_weigh 1 = .ok (.aload_n 0, 1) := by decide +kernel
theorem dX6_weigh_2 : decode cX6_weigh 2 = .ok (.getfield 22, 3) := by decide +kernel
theorem dX6_weigh_5 : decode cX6_weigh 5 = .ok (.if_icmp .le 23, 3) := by decide +kernel
theorem dX6_weigh_8 : decode cX6_weigh 8 = .ok (.aload_n 0, 1) := by decide +kernel
theorem dX6_weigh_9 : decode cX6_weigh 9 = .ok (.iload_n 1, 1) := by decide +kernel
theorem dX6_weigh_10 : decode cX6_weigh 10 = .ok (.putfield 22, 3) := by decide +kernel
theorem dX6_weigh_13 : decode cX6_weigh 13 = .ok (.aload_n 0, 1) := by decide +kernel
theorem dX6_weigh_14 : decode cX6_weigh 14 = .ok (.getfield 9, 3) := by decide +kernel
theorem dX6_weigh_17 : decode cX6_weigh 17 = .ok (.iconst 0, 1) := by decide +kernel
theorem dX6_weigh_18 : decode cX6_weigh 18 = .ok (.aload_n 0, 1) := by decide +kernel
theorem dX6_weigh_19 : decode cX6_weigh 19 = .ok (.getfield 15, 3) := by decide +kernel
theorem dX6_weigh_22 : decode cX6_weigh 22 = .ok (.iconst 0, 1) := by decide +kernel
theorem dX6_weigh_23 : decode cX6_weigh 23 = .ok (.bipush 6, 2) := by decide +kernel
theorem dX6_weigh_25 : decode cX6_weigh 25 = .ok (.invokestatic 29, 3) := by decide +kernel
theorem dX6_weigh_28 : decode cX6_weigh 28 = .ok (.return_, 1) := by decide +kernel
theorem dX6_answerTo_0 : decode cX6_answerTo 0 = .ok (.iload_n 1, 1) := by decide +kernel
theorem dX6_answerTo_1 : decode cX6_answerTo 1 = .ok (.iconst (-1), 1) := by decide +kernel
theorem dX6_answerTo_2 : decode cX6_answerTo 2 = .ok (.if_icmp .ne 8, 3) := by decide +kernel
theorem dX6_answerTo_5 : decode cX6_answerTo 5 = .ok (.aload_n 0, 1) := by decide +kernel
theorem dX6_answerTo_6 : decode cX6_answerTo 6 = .ok (.getfield 22, 3) := by decide +kernel
theorem dX6_answerTo_9 : decode cX6_answerTo 9 = .ok (.ireturn, 1) := by decide +kernel
theorem dX6_answerTo_10 : decode cX6_answerTo 10 = .ok (.iload_n 1, 1) := by decide +kernel
theorem dX6_answerTo_11 : decode cX6_answerTo 11 = .ok (.ifCond .lt 20, 3) := by decide +kernel
theorem dX6_answerTo_14 : decode cX6_answerTo 14 = .ok (.iload_n 1, 1) := by decide +kernel
theorem dX6_answerTo_15 : decode cX6_answerTo 15 = .ok (.aload_n 0, 1) := by decide +kernel
theorem dX6_answerTo_16 : decode cX6_answerTo 16 = .ok (.getfield 18, 3) := by decide +kernel
theorem dX6_answerTo_19 : decode cX6_answerTo 19 = .ok (.if_icmp .ge 12, 3) := by decide +kernel
theorem dX6_answerTo_22 : decode cX6_answerTo 22 = .ok (.aload_n 0, 1) := by decide +kernel
theorem dX6_answerTo_23 : decode cX6_answerTo 23 = .ok (.getfield 15, 3) := by decide +kernel
theorem dX6_answerTo_26 : decode cX6_answerTo 26 = .ok (.iload_n 1, 1) := by decide +kernel
theorem dX6_answerTo_27 : decode cX6_answerTo 27 = .ok (.iaload, 1) := by decide +kernel
theorem dX6_answerTo_28 : decode cX6_answerTo 28 = .ok (.goto 5, 3) := by decide +kernel
theorem dX6_answerTo_31 : decode cX6_answerTo 31 = .ok (.bipush (-2), 2) := by decide +kernel
theorem dX6_answerTo_33 : decode cX6_answerTo 33 = .ok (.ireturn, 1) := by decide +kernel
theorem dX6_advance_0 : decode cX6_advance 0 = .ok (.aload_n 0, 1) := by decide +kernel
theorem dX6_advance_1 : decode cX6_advance 1 = .ok (.getfield 18, 3) := by decide +kernel
theorem dX6_advance_4 : decode cX6_advance 4 = .ok (.iconst 2, 1) := by decide +kernel
theorem dX6_advance_5 : decode cX6_advance 5 = .ok (.isub, 1) := by decide +kernel
theorem dX6_advance_6 : decode cX6_advance 6 = .ok (.istore_n 1, 1) := by decide +kernel
theorem dX6_advance_7 : decode cX6_advance 7 = .ok (.iload_n 1, 1) := by decide +kernel
theorem dX6_advance_8 : decode cX6_advance 8 = .ok (.ifCond .lt 26, 3) := by decide +kernel
theorem dX6_advance_11 : decode cX6_advance 11 = .ok (.aload_n 0, 1) := by decide +kernel
theorem dX6_advance_12 : decode cX6_advance 12 = .ok (.getfield 9, 3) := by decide +kernel
theorem dX6_advance_15 : decode cX6_advance 15 = .ok (.iload_n 1, 1) := by decide +kernel
theorem dX6_advance_16 : decode cX6_advance 16 = .ok (.iaload, 1) := by decide +kernel
theorem dX6_advance_17 : decode cX6_advance 17 = .ok (.aload_n 0, 1) := by decide +kernel
theorem dX6_advance_18 : decode cX6_advance 18 = .ok (.getfield 9, 3) := by decide +kernel
theorem dX6_advance_21 : decode cX6_advance 21 = .ok (.iload_n 1, 1) := by decide +kernel
theorem dX6_advance_22 : decode cX6_advance 22 = .ok (.iconst 1, 1) := by decide +kernel
theorem dX6_advance_23 : decode cX6_advance 23 = .ok (.iadd, 1) := by decide +kernel
theorem dX6_advance_24 : decode cX6_advance 24 = .ok (.iaload, 1) := by decide +kernel
theorem dX6_advance_25 : decode cX6_advance 25 = .ok (.if_icmp .le 9, 3) := by decide +kernel
theorem dX6_advance_28 : decode cX6_advance 28 = .ok (.iinc 1 (-1), 3) := by decide +kernel
theorem dX6_advance_31 : decode cX6_advance 31 = .ok (.goto (-24), 3) := by decide +kernel
theorem dX6_advance_34 : decode cX6_advance 34 = .ok (.iload_n 1, 1) := by decide +kernel
theorem dX6_advance_35 : decode cX6_advance 35 = .ok (.ifCond .ge 5, 3) := by decide +kernel
theorem dX6_advance_38 : decode cX6_advance 38 = .ok (.iconst 0, 1) := by decide +kernel
theorem dX6_advance_39 : decode cX6_advance 39 = .ok (.ireturn, 1) := by decide +kernel
theorem dX6_advance_40 : decode cX6_advance 40 = .ok (.aload_n 0, 1) := by decide +kernel
theorem dX6_advance_41 : decode cX6_advance 41 = .ok (.getfield 18, 3) := by decide +kernel
theorem dX6_advance_44 : decode cX6_advance 44 = .ok (.iconst 1, 1) := by decide +kernel
theorem dX6_advance_45 : decode cX6_advance 45 = .ok (.isub, 1) := by decide +kernel
theorem dX6_advance_46 : decode cX6_advance 46 = .ok (.istore_n 2, 1) := by decide +kernel
theorem dX6_advance_47 : decode cX6_advance 47 = .ok (.iload_n 2, 1) := by decide +kernel
theorem dX6_advance_48 : decode cX6_advance 48 = .ok (.iload_n 1, 1) := by decide +kernel
theorem dX6_advance_49 : decode cX6_advance 49 = .ok (.if_icmp .le 24, 3) := by decide +kernel
theorem dX6_advance_52 : decode cX6_advance 52 = .ok (.aload_n 0, 1) := by decide +kernel
theorem dX6_advance_53 : decode cX6_advance 53 = .ok (.getfield 9, 3) := by decide +kernel
theorem dX6_advance_56 : decode cX6_advance 56 = .ok (.iload_n 2, 1) := by decide +kernel
theorem dX6_advance_57 : decode cX6_advance 57 = .ok (.iaload, 1) := by decide +kernel
theorem dX6_advance_58 : decode cX6_advance 58 = .ok (.aload_n 0, 1) := by decide +kernel
theorem dX6_advance_59 : decode cX6_advance 59 = .ok (.getfield 9, 3) := by decide +kernel
theorem dX6_advance_62 : decode cX6_advance 62 = .ok (.iload_n 1, 1) := by decide +kernel
theorem dX6_advance_63 : decode cX6_advance 63 = .ok (.iaload, 1) := by decide +kernel
theorem dX6_advance_64 : decode cX6_advance 64 = .ok (.if_icmp .ge 9, 3) := by decide +kernel
theorem dX6_advance_67 : decode cX6_advance 67 = .ok (.iinc 2 (-1), 3) := by decide +kernel
theorem dX6_advance_70 : decode cX6_advance 70 = .ok (.goto (-23), 3) := by decide +kernel
theorem dX6_advance_73 : decode cX6_advance 73 = .ok (.aload_n 0, 1) := by decide +kernel
theorem dX6_advance_74 : decode cX6_advance 74 = .ok (.iload_n 1, 1) := by decide +kernel
theorem dX6_advance_75 : decode cX6_advance 75 = .ok (.iload_n 2, 1) := by decide +kernel
theorem dX6_advance_76 : decode cX6_advance 76 = .ok (.invokevirtual 35, 3) := by decide +kernel
theorem dX6_advance_79 : decode cX6_advance 79 = .ok (.iload_n 1, 1) := by decide +kernel
theorem dX6_advance_80 : decode cX6_advance 80 = .ok (.iconst 1, 1) := by decide +kernel
theorem dX6_advance_81 : decode cX6_advance 81 = .ok (.iadd, 1) := by decide +kernel
theorem dX6_advance_82 : decode cX6_advance 82 = .ok (.istore_n 3, 1) := by decide +kernel
theorem dX6_advance_83 : decode cX6_advance 83 = .ok (.aload_n 0, 1) := by decide +kernel
theorem dX6_advance_84 : decode cX6_advance 84 = .ok (.getfield 18, 3) := by decide +kernel
theorem dX6_advance_87 : decode cX6_advance 87 = .ok (.iconst 1, 1) := by decide +kernel
theorem dX6_advance_88 : decode cX6_advance 88 = .ok (.isub, 1) := by decide +kernel
theorem dX6_advance_89 : decode cX6_advance 89 = .ok (.istore 4, 2) := by decide +kernel
theorem dX6_advance_91 : decode cX6_advance 91 = .ok (.iload_n 3, 1) := by decide +kernel
theorem dX6_advance_92 : decode cX6_advance 92 = .ok (.iload 4, 2) := by decide +kernel
theorem dX6_advance_94 : decode cX6_advance 94 = .ok (.if_icmp .ge 19, 3) := by decide +kernel
theorem dX6_advance_97 : decode cX6_advance 97 = .ok (.aload_n 0, 1) := by decide +kernel
theorem dX6_advance_98 : decode cX6_advance 98 = .ok (.iload_n 3, 1) := by decide +kernel
theorem dX6_advance_99 : decode cX6_advance 99 = .ok (.iload 4, 2) := by decide +kernel
theorem dX6_advance_101 : decode cX6_advance 101 = .ok (.invokevirtual 35, 3) := by decide +kernel
theorem dX6_advance_104 : decode cX6_advance 104 = .ok (.iinc 3 1, 3) := by decide +kernel
theorem dX6_advance_107 : decode cX6_advance 107 = .ok (.iinc 4 (-1), 3) := by decide +kernel
theorem dX6_advance_110 : decode cX6_advance 110 = .ok (.goto (-19), 3) := by decide +kernel
theorem dX6_advance_113 : decode cX6_advance 113 = .ok (.iconst 1, 1) := by decide +kernel
theorem dX6_advance_114 : decode cX6_advance 114 = .ok (.ireturn, 1) := by decide +kernel
theorem dX6_exchange_0 : decode cX6_exchange 0 = .ok (.aload_n 0, 1) := by decide +kernel
theorem dX6_exchange_1 : decode cX6_exchange 1 = .ok (.getfield 9, 3) := by decide +kernel
theorem dX6_exchange_4 : decode cX6_exchange 4 = .ok (.iload_n 1, 1) := by decide +kernel
theorem dX6_exchange_5 : decode cX6_exchange 5 = .ok (.iaload, 1) := by decide +kernel
theorem dX6_exchange_6 : decode cX6_exchange 6 = .ok (.istore_n 3, 1) := by decide +kernel
theorem dX6_exchange_7 : decode cX6_exchange 7 = .ok (.aload_n 0, 1) := by decide +kernel
theorem dX6_exchange_8 : decode cX6_exchange 8 = .ok (.getfield 9, 3) := by decide +kernel
theorem dX6_exchange_11 : decode cX6_exchange 11 = .ok (.iload_n 1, 1) := by decide +kernel
theorem dX6_exchange_12 : decode cX6_exchange 12 = .ok (.aload_n 0, 1) := by decide +kernel
theorem dX6_exchange_13 : decode cX6_exchange 13 = .ok (.getfield 9, 3) := by decide +kernel
theorem dX6_exchange_16 : decode cX6_exchange 16 = .ok (.iload_n 2, 1) := by decide +kernel
theorem dX6_exchange_17 : decode cX6_exchange 17 = .ok (.iaload, 1) := by decide +kernel
theorem dX6_exchange_18 : decode cX6_exchange 18 = .ok (.iastore, 1) := by decide +kernel
theorem dX6_exchange_19 : decode cX6_exchange 19 = .ok (.aload_n 0, 1) := by decide +kernel
theorem dX6_exchange_20 : decode cX6_exchange 20 = .ok (.getfield 9, 3) := by decide +kernel
theorem dX6_exchange_23 : decode cX6_exchange 23 = .ok (.iload_n 2, 1) := by decide +kernel
theorem dX6_exchange_24 : decode cX6_exchange 24 = .ok (.iload_n 3, 1) := by decide +kernel
theorem dX6_exchange_25 : decode cX6_exchange 25 = .ok (.iastore, 1) := by decide +kernel
theorem dX6_exchange_26 : decode cX6_exchange 26 = .ok (.return_, 1) := by decide +kernel
theorem dX7_init_0 : decode cX7_init 0 = .ok (.aload_n 0, 1) := by decide +kernel
theorem dX7_init_1 : decode cX7_init 1 = .ok (.invokespecial 3, 3) := by decide +kernel
theorem dX7_init_4 : decode cX7_init 4 = .ok (.aload_n 0, 1) := by decide +kernel
theorem dX7_init_5 : decode cX7_init 5 = .ok (.sipush 1000, 3) := by decide +kernel
theorem dX7_init_8 : decode cX7_init 8 = .ok (.newarray .byte, 2) := by decide +kernel
theorem dX7_init_10 : decode cX7_init 10 = .ok (.putfield 9, 3) := by decide +kernel
theorem dX7_init_13 : decode cX7_init 13 = .ok (.return_, 1) := by decide +kernel
theorem dX7_write_0 : decode cX7_write 0 = .ok (.bipush 56, 2) := by decide +kernel
theorem dX7_write_2 : decode cX7_write 2 = .ok (.istore_n 3, 1) := by decide +kernel
theorem dX7_write_3 : decode cX7_write 3 = .ok (.iload_n 3, 1) := by decide +kernel
theorem dX7_write_4 : decode cX7_write 4 = .ok (.ifCond .lt 74, 3) := by decide +kernel
theorem dX7_write_7 : decode cX7_write 7 = .ok (.lload_n 1, 1) := by decide +kernel
theorem dX7_write_8 : decode cX7_write 8 = .ok (.iload_n 3, 1) := by decide +kernel
theorem dX7_write_9 : decode cX7_write 9 = .ok (.lushr, 1) := by decide +kernel
theorem dX7_write_10 : decode cX7_write 10 = .ok (.ldc2_w 15, 3) := by decide +kernel
theorem dX7_write_13 : decode cX7_write 13 = .ok (.land, 1) := by decide +kernel
theorem dX7_write_14 : decode cX7_write 14 = .ok (.l2i, 1) := by decide +kernel
theorem dX7_write_15 : decode cX7_write 15 = .ok (.istore 4, 2) := by decide +kernel
theorem dX7_write_17 : decode cX7_write 17 = .ok (.iload 4, 2) := by decide +kernel
theorem dX7_write_19 : decode cX7_write 19 = .ok (.bipush 10, 2) := by decide +kernel
theorem dX7_write_21 : decode cX7_write 21 = .ok (.if_icmp .eq 17, 3) := by decide +kernel
theorem dX7_write_24 : decode cX7_write 24 = .ok (.iload 4, 2) := by decide +kernel
theorem dX7_write_26 : decode cX7_write 26 = .ok (.bipush 32, 2) := by decide +kernel
theorem dX7_write_28 : decode cX7_write 28 = .ok (.if_icmp .lt 44, 3) := by decide +kernel
theorem dX7_write_31 : decode cX7_write 31 = .ok (.iload 4, 2) := by decide +kernel
theorem dX7_write_33 : decode cX7_write 33 = .ok (.bipush 126, 2) := by decide +kernel
theorem dX7_write_35 : decode cX7_write 35 = .ok (.if_icmp .gt 37, 3) := by decide +kernel
theorem dX7_write_38 : decode cX7_write 38 = .ok (.aload_n 0, 1) := by decide +kernel
theorem dX7_write_39 : decode cX7_write 39 = .ok (.getfield 17, 3) := by decide +kernel
theorem dX7_write_42 : decode cX7_write 42 = .ok (.aload_n 0, 1) := by decide +kernel
theorem dX7_write_43 : decode cX7_write 43 = .ok (.getfield 9, 3) := by decide +kernel
theorem dX7_write_46 : decode cX7_write 46 = .ok (.arraylength, 1) := by decide +kernel
theorem dX7_write_47 : decode cX7_write 47 = .ok (.if_icmp .ge 25, 3) := by decide +kernel
theorem dX7_write_50 : decode cX7_write 50 = .ok (.aload_n 0, 1) := by decide +kernel
theorem dX7_write_51 : decode cX7_write 51 = .ok (.getfield 9, 3) := by decide +kernel
theorem dX7_write_54 : decode cX7_write 54 = .ok (.aload_n 0, 1) := by decide +kernel
theorem dX7_write_55 : decode cX7_write 55 = .ok (.getfield 17, 3) := by decide +kernel
theorem dX7_write_58 : decode cX7_write 58 = .ok (.iload 4, 2) := by decide +kernel
theorem dX7_write_60 : decode cX7_write 60 = .ok (.i2b, 1) := by decide +kernel
theorem dX7_write_61 : decode cX7_write 61 = .ok (.bastore, 1) := by decide +kernel
theorem dX7_write_62 : decode cX7_write 62 = .ok (.aload_n 0, 1) := by decide +kernel
theorem dX7_write_63 : decode cX7_write 63 = .ok (.dup, 1) := by decide +kernel
theorem dX7_write_64 : decode cX7_write 64 = .ok (.getfield 17, 3) := by decide +kernel
theorem dX7_write_67 : decode cX7_write 67 = .ok (.iconst 1, 1) := by decide +kernel
theorem dX7_write_68 : decode cX7_write 68 = .ok (.iadd, 1) := by decide +kernel
theorem dX7_write_69 : decode cX7_write 69 = .ok (.putfield 17, 3) := by decide +kernel
theorem dX7_write_72 : decode cX7_write 72 = .ok (.iinc 3 (-8), 3) := by decide +kernel
theorem dX7_write_75 : decode cX7_write 75 = .ok (.goto (-72), 3) := by decide +kernel
theorem dX7_write_78 : decode cX7_write 78 = .ok (.return_, 1) := by decide +kernel
theorem dX7_clear_0 : decode cX7_clear 0 = .ok (.aload_n 0, 1) := by decide +kernel
theorem dX7_clear_1 : decode cX7_clear 1 = .ok (.iconst 0, 1) := by decide +kernel
theorem dX7_clear_2 : decode cX7_clear 2 = .ok (.putfield 17, 3) := by decide +kernel
theorem dX7_clear_5 : decode cX7_clear 5 = .ok (.return_, 1) := by decide +kernel
theorem dX7_rewind_0 : decode cX7_rewind 0 = .ok (.aload_n 0, 1) := by decide +kernel
theorem dX7_rewind_1 : decode cX7_rewind 1 = .ok (.iconst 0, 1) := by decide +kernel
theorem dX7_rewind_2 : decode cX7_rewind 2 = .ok (.putfield 21, 3) := by decide +kernel
theorem dX7_rewind_5 : decode cX7_rewind 5 = .ok (.aload_n 0, 1) := by decide +kernel
theorem dX7_rewind_6 : decode cX7_rewind 6 = .ok (.invokevirtual 24, 3) := by decide +kernel
theorem dX7_rewind_9 : decode cX7_rewind 9 = .ok (.return_, 1) := by decide +kernel
theorem dX7_isWord_0 : decode cX7_isWord 0 = .ok (.aload_n 0, 1) := by decide +kernel
theorem dX7_isWord_1 : decode cX7_isWord 1 = .ok (.getfield 27, 3) := by decide +kernel
theorem dX7_isWord_4 : decode cX7_isWord 4 = .ok (.iconst 2, 1) := by decide +kernel
theorem dX7_isWord_5 : decode cX7_isWord 5 = .ok (.if_icmp .ne 16, 3) := by decide +kernel
theorem dX7_isWord_8 : decode cX7_isWord 8 = .ok (.aload_n 0, 1) := by decide +kernel
theorem dX7_isWord_9 : decode cX7_isWord 9 = .ok (.getfield 30, 3) := by decide +kernel
theorem dX7_isWord_12 : decode cX7_isWord 12 = .ok (.lload_n 1, 1) := by decide +kernel
theorem dX7_isWord_13 : decode cX7_isWord 13 = .ok (.lcmp, 1) := by decide +kernel
theorem dX7_isWord_14 : decode cX7_isWord 14 = .ok (.ifCond .ne 7, 3) := by decide +kernel
theorem dX7_isWord_17 : decode cX7_isWord 17 = .ok (.iconst 1, 1) := by decide +kernel
theorem dX7_isWord_18 : decode cX7_isWord 18 = .ok (.goto 4, 3) := by decide +kernel
theorem dX7_isWord_21 : decode cX7_isWord 21 = .ok (.iconst 0, 1) := by decide +kernel
theorem dX7_isWord_22 : decode cX7_isWord 22 = .ok (.ireturn, 1) := by decide +kernel
theorem dX7_isSign_0 : decode cX7_isSign 0 = .ok (.aload_n 0, 1) := by decide +kernel
theorem dX7_isSign_1 : decode cX7_isSign 1 = .ok (.getfield 27, 3) := by decide +kernel
theorem dX7_isSign_4 : decode cX7_isSign 4 = .ok (.iconst 4, 1) := by decide +kernel
theorem dX7_isSign_5 : decode cX7_isSign 5 = .ok (.if_icmp .ne 17, 3) := by decide +kernel
theorem dX7_isSign_8 : decode cX7_isSign 8 = .ok (.aload_n 0, 1) := by decide +kernel
theorem dX7_isSign_9 : decode cX7_isSign 9 = .ok (.getfield 30, 3) := by decide +kernel
theorem dX7_isSign_12 : decode cX7_isSign 12 = .ok (.iload_n 1, 1) := by decide +kernel
theorem dX7_isSign_13 : decode cX7_isSign 13 = .ok (.i2l, 1) := by decide +kernel
theorem dX7_isSign_14 : decode cX7_isSign 14 = .ok (.lcmp, 1) := by decide +kernel
theorem dX7_isSign_15 : decode cX7_isSign 15 = .ok (.ifCond .ne 7, 3) := by decide +kernel
theorem dX7_isSign_18 : decode cX7_isSign 18 = .ok (.iconst 1, 1) := by decide +kernel
theorem dX7_isSign_19 : decode cX7_isSign 19 = .ok (.goto 4, 3) := by decide +kernel
theorem dX7_isSign_22 : decode cX7_isSign 22 = .ok (.iconst 0, 1) := by decide +kernel
theorem dX7_isSign_23 : decode cX7_isSign 23 = .ok (.ireturn, 1) := by decide +kernel
theorem dX7_step_0 : decode cX7_step 0 = .ok (.aload_n 0, 1) := by decide +kernel
theorem dX7_step_1 : decode cX7_step 1 = .ok (.getfield 21, 3) := by decide +kernel
theorem dX7_step_4 : decode cX7_step 4 = .ok (.istore_n 1, 1) := by decide +kernel
theorem dX7_step_5 : decode cX7_step 5 = .ok (.iload_n 1, 1) := by decide +kernel
theorem dX7_step_6 : decode cX7_step 6 = .ok (.aload_n 0, 1) := by decide +kernel
theorem dX7_step_7 : decode cX7_step 7 = .ok (.getfield 17, 3) := by decide +kernel
theorem dX7_step_10 : decode cX7_step 10 = .ok (.if_icmp .ge 31, 3) := by decide +kernel
theorem dX7_step_13 : decode cX7_step 13 = .ok (.aload_n 0, 1) := by decide +kernel
theorem dX7_step_14 : decode cX7_step 14 = .ok (.getfield 9, 3) := by decide +kernel
theorem dX7_step_17 : decode cX7_step 17 = .ok (.iload_n 1, 1) := by decide +kernel
theorem dX7_step_18 : decode cX7_step 18 = .ok (.baload, 1) := by decide +kernel
theorem dX7_step_19 : decode cX7_step 19 = .ok (.bipush 10, 2) := by decide +kernel
theorem dX7_step_21 : decode cX7_step 21 = .ok (.if_icmp .eq 14, 3) := by decide +kernel
theorem dX7_step_24 : decode cX7_step 24 = .ok (.aload_n 0, 1) := by decide +kernel
theorem dX7_step_25 : decode cX7_step 25 = .ok (.getfield 9, 3) := by decide +kernel
theorem dX7_step_28 : decode cX7_step 28 = .ok (.iload_n 1, 1) := by decide +kernel
theorem dX7_step_29 : decode cX7_step 29 = .ok (.baload, 1) := by decide +kernel
theorem dX7_step_30 : decode cX7_step 30 = .ok (.bipush 32, 2) := by decide +kernel
theorem dX7_step_32 : decode cX7_step 32 = .ok (.if_icmp .ne 9, 3) := by decide +kernel
theorem dX7_step_35 : decode cX7_step 35 = .ok (.iinc 1 1, 3) := by decide +kernel
theorem dX7_step_38 : decode cX7_step 38 = .ok (.goto (-33), 3) := by decide +kernel
theorem dX7_step_41 : decode cX7_step 41 = .ok (.aload_n 0, 1) := by decide +kernel
theorem dX7_step_42 : decode cX7_step 42 = .ok (.iload_n 1, 1) := by decide +kernel
theorem dX7_step_43 : decode cX7_step 43 = .ok (.putfield 34, 3) := by decide +kernel
theorem dX7_step_46 : decode cX7_step 46 = .ok (.aload_n 0, 1) := by decide +kernel
theorem dX7_step_47 : decode cX7_step 47 = .ok (.iload_n 1, 1) := by decide +kernel
theorem dX7_step_48 : decode cX7_step 48 = .ok (.putfield 21, 3) := by decide +kernel
theorem dX7_step_51 : decode cX7_step 51 = .ok (.aload_n 0, 1) := by decide +kernel
theorem dX7_step_52 : decode cX7_step 52 = .ok (.lconst 0, 1) := by decide +kernel
theorem dX7_step_53 : decode cX7_step 53 = .ok (.putfield 30, 3) := by decide +kernel
theorem dX7_step_56 : decode cX7_step 56 = .ok (.iload_n 1, 1) := by decide +kernel
theorem dX7_step_57 : decode cX7_step 57 = .ok (.aload_n 0, 1) := by decide +kernel
theorem dX7_step_58 : decode cX7_step 58 = .ok (.getfield 17, 3) := by decide +kernel
theorem dX7_step_61 : decode cX7_step 61 = .ok (.if_icmp .lt 11, 3) := by decide +kernel
theorem dX7_step_64 : decode cX7_step 64 = .ok (.aload_n 0, 1) := by decide +kernel
theorem dX7_step_65 : decode cX7_step 65 = .ok (.iconst 0, 1) := by decide +kernel
theorem dX7_step_66 : decode cX7_step 66 = .ok (.putfield 27, 3) := by decide +kernel
theorem dX7_step_69 : decode cX7_step 69 = .ok (.goto 65, 3) := by decide +kernel
theorem dX7_step_72 : decode cX7_step 72 = .ok (.aload_n 0, 1) := by decide +kernel
theorem dX7_step_73 : decode cX7_step 73 = .ok (.getfield 9, 3) := by decide +kernel
theorem dX7_step_76 : decode cX7_step 76 = .ok (.iload_n 1, 1) := by decide +kernel
theorem dX7_step_77 : decode cX7_step 77 = .ok (.baload, 1) := by decide +kernel
theorem dX7_step_78 : decode cX7_step 78 = .ok (.bipush 97, 2) := by decide +kernel
theorem dX7_step_80 : decode cX7_step 80 = .ok (.if_icmp .lt 21, 3) := by decide +kernel
theorem dX7_step_83 : decode cX7_step 83 = .ok (.aload_n 0, 1) := by decide +kernel
theorem dX7_step_84 : decode cX7_step 84 = .ok (.getfield 9, 3) := by decide +kernel
theorem dX7_step_87 : decode cX7_step 87 = .ok (.iload_n 1, 1) := by decide +kernel
theorem dX7_step_88 : decode cX7_step 88 = .ok (.baload, 1) := by decide +kernel
theorem dX7_step_89 : decode cX7_step 89 = .ok (.bipush 122, 2) := by decide +kernel
theorem dX7_step_91 : decode cX7_step 91 = .ok (.if_icmp .gt 10, 3) := by decide +kernel
theorem dX7_step_94 : decode cX7_step 94 = .ok (.aload_n 0, 1) := by decide +kernel
theorem dX7_step_95 : decode cX7_step 95 = .ok (.invokevirtual 37, 3) := by decide +kernel
theorem dX7_step_98 : decode cX7_step 98 = .ok (.goto 36, 3) := by decide +kernel
theorem dX7_step_101 : decode cX7_step 101 = .ok (.aload_n 0, 1) := by decide +kernel
theorem dX7_step_102 : decode cX7_step 102 = .ok (.getfield 9, 3) := by decide +kernel
theorem dX7_step_105 : decode cX7_step 105 = .ok (.iload_n 1, 1) := by decide +kernel
theorem dX7_step_106 : decode cX7_step 106 = .ok (.baload, 1) := by decide +kernel
theorem dX7_step_107 : decode cX7_step 107 = .ok (.bipush 48, 2) := by decide +kernel
theorem dX7_step_109 : decode cX7_step 109 = .ok (.if_icmp .lt 21, 3) := by decide +kernel
theorem dX7_step_112 : decode cX7_step 112 = .ok (.aload_n 0, 1) := by decide +kernel
theorem dX7_step_113 : decode cX7_step 113 = .ok (.getfield 9, 3) := by decide +kernel
theorem dX7_step_116 : decode cX7_step 116 = .ok (.iload_n 1, 1) := by decide +kernel
theorem dX7_step_117 : decode cX7_step 117 = .ok (.baload, 1) := by decide +kernel
theorem dX7_step_118 : decode cX7_step 118 = .ok (.bipush 57, 2) := by decide +kernel
theorem dX7_step_120 : decode cX7_step 120 = .ok (.if_icmp .gt 10, 3) := by decide +kernel
theorem dX7_step_123 : decode cX7_step 123 = .ok (.aload_n 0, 1) := by decide +kernel
theorem dX7_step_124 : decode cX7_step 124 = .ok (.invokevirtual 40, 3) := by decide +kernel
theorem dX7_step_127 : decode cX7_step 127 = .ok (.goto 7, 3) := by decide +kernel
theorem dX7_step_130 : decode cX7_step 130 = .ok (.aload_n 0, 1) := by decide +kernel
theorem dX7_step_131 : decode cX7_step 131 = .ok (.invokevirtual 43, 3) := by decide +kernel
theorem dX7_step_134 : decode cX7_step 134 = .ok (.return_, 1) := by decide +kernel
theorem dX7_takeWord_0 : decode cX7_takeWord 0 = .ok (.aload_n 0, 1) := by decide +kernel
theorem dX7_takeWord_1 : decode cX7_takeWord 1 = .ok (.getfield 21, 3) := by decide +kernel
theorem dX7_takeWord_4 : decode cX7_takeWord 4 = .ok (.aload_n 0, 1) := by decide +kernel
theorem dX7_takeWord_5 : decode cX7_takeWord 5 = .ok (.getfield 17, 3) := by decide +kernel
theorem dX7_takeWord_8 : decode cX7_takeWord 8 = .ok (.if_icmp .ge 66, 3) := by decide +kernel
theorem dX7_takeWord_11 : decode cX7_takeWord 11 = .ok (.aload_n 0, 1) := by decide +kernel
theorem dX7_takeWord_12 : decode cX7_takeWord 12 = .ok (.getfield 9, 3) := by decide +kernel
theorem dX7_takeWord_15 : decode cX7_takeWord 15 = .ok (.aload_n 0, 1) := by decide +kernel
theorem dX7_takeWord_16 : decode cX7_takeWord 16 = .ok (.getfield 21, 3) := by decide +kernel
theorem dX7_takeWord_19 : decode cX7_takeWord 19 = .ok (.baload, 1) := by decide +kernel
theorem dX7_takeWord_20 : decode cX7_takeWord 20 = .ok (.bipush 97, 2) := by decide +kernel
theorem dX7_takeWord_22 : decode cX7_takeWord 22 = .ok (.if_icmp .lt 52, 3) := by decide +kernel
theorem dX7_takeWord_25 : decode cX7_takeWord 25 = .ok (.aload_n 0, 1) := by decide +kernel
theorem dX7_takeWord_26 : decode cX7_takeWord 26 = .ok (.getfield 9, 3) := by decide +kernel
theorem dX7_takeWord_29 : decode cX7_takeWord 29 = .ok (.aload_n 0, 1) := by decide +kernel
theorem dX7_takeWord_30 : decode cX7_takeWord 30 = .ok (.getfield 21, 3) := by decide +kernel
theorem dX7_takeWord_33 : decode cX7_takeWord 33 = .ok (.baload, 1) := by decide +kernel
theorem dX7_takeWord_34 : decode cX7_takeWord 34 = .ok (.bipush 122, 2) := by decide +kernel
theorem dX7_takeWord_36 : decode cX7_takeWord 36 = .ok (.if_icmp .gt 38, 3) := by decide +kernel
theorem dX7_takeWord_39 : decode cX7_takeWord 39 = .ok (.aload_n 0, 1) := by decide +kernel
theorem dX7_takeWord_40 : decode cX7_takeWord 40 = .ok (.aload_n 0, 1) := by decide +kernel
theorem dX7_takeWord_41 : decode cX7_takeWord 41 = .ok (.getfield 30, 3) := by decide +kernel
theorem dX7_takeWord_44 : decode cX7_takeWord 44 = .ok (.bipush 8, 2) := by decide +kernel
theorem dX7_takeWord_46 : decode cX7_takeWord 46 = .ok (.lshl, 1) := by decide +kernel
theorem dX7_takeWord_47 : decode cX7_takeWord 47 = .ok (.aload_n 0, 1) := by decide +kernel
theorem dX7_takeWord_48 : decode cX7_takeWord 48 = .ok (.getfield 9, 3) := by decide +kernel
theorem dX7_takeWord_51 : decode cX7_takeWord 51 = .ok (.aload_n 0, 1) := by decide +kernel
theorem dX7_takeWord_52 : decode cX7_takeWord 52 = .ok (.getfield 21, 3) := by decide +kernel
theorem dX7_takeWord_55 : decode cX7_takeWord 55 = .ok (.baload, 1) := by decide +kernel
theorem dX7_takeWord_56 : decode cX7_takeWord 56 = .ok (.i2l, 1) := by decide +kernel
theorem dX7_takeWord_57 : decode cX7_takeWord 57 = .ok (.lor, 1) := by decide +kernel
theorem dX7_takeWord_58 : decode cX7_takeWord 58 = .ok (.putfield 30, 3) := by decide +kernel
theorem dX7_takeWord_61 : decode cX7_takeWord 61 = .ok (.aload_n 0, 1) := by decide +kernel
theorem dX7_takeWord_62 : decode cX7_takeWord 62 = .ok (.dup, 1) := by decide +kernel
theorem dX7_takeWord_63 : decode cX7_takeWord 63 = .ok (.getfield 21, 3) := by decide +kernel
theorem dX7_takeWord_66 : decode cX7_takeWord 66 = .ok (.iconst 1, 1) := by decide +kernel
theorem dX7_takeWord_67 : decode cX7_takeWord 67 = .ok (.iadd, 1) := by decide +kernel
theorem dX7_takeWord_68 : decode cX7_takeWord 68 = .ok (.putfield 21, 3) := by decide +kernel
theorem dX7_takeWord_71 : decode cX7_takeWord 71 = .ok (.goto (-71), 3) := by decide +kernel
theorem dX7_takeWord_74 : decode cX7_takeWord 74 = .ok (.aload_n 0, 1) := by decide +kernel
theorem dX7_takeWord_75 : decode cX7_takeWord 75 = .ok (.aload_n 0, 1) := by decide +kernel
theorem dX7_takeWord_76 : decode cX7_takeWord 76 = .ok (.getfield 21, 3) := by decide +kernel
theorem dX7_takeWord_79 : decode cX7_takeWord 79 = .ok (.aload_n 0, 1) := by decide +kernel
theorem dX7_takeWord_80 : decode cX7_takeWord 80 = .ok (.getfield 34, 3) := by decide +kernel
theorem dX7_takeWord_83 : decode cX7_takeWord 83 = .ok (.isub, 1) := by decide +kernel
theorem dX7_takeWord_84 : decode cX7_takeWord 84 = .ok (.bipush 8, 2) := by decide +kernel
theorem dX7_takeWord_86 : decode cX7_takeWord 86 = .ok (.if_icmp .gt 7, 3) := by decide +kernel
theorem dX7_takeWord_89 : decode cX7_takeWord 89 = .ok (.iconst 2, 1) := by decide +kernel
theorem dX7_takeWord_90 : decode cX7_takeWord 90 = .ok (.goto 4, 3) := by decide +kernel
theorem dX7_takeWord_93 : decode cX7_takeWord 93 = .ok (.iconst 1, 1) := by decide +kernel
theorem dX7_takeWord_94 : decode cX7_takeWord 94 = .ok (.putfield 27, 3) := by decide +kernel
theorem dX7_takeWord_97 : decode cX7_takeWord 97 = .ok (.return_, 1) := by decide +kernel
theorem dX7_takeNumber_0 : decode cX7_takeNumber 0 = .ok (.aload_n 0, 1) := by decide +kernel
theorem dX7_takeNumber_1 : decode cX7_takeNumber 1 = .ok (.getfield 21, 3) := by decide +kernel
theorem dX7_takeNumber_4 : decode cX7_takeNumber 4 = .ok (.aload_n 0, 1) := by decide +kernel
theorem dX7_takeNumber_5 : decode cX7_takeNumber 5 = .ok (.getfield 17, 3) := by decide +kernel
theorem dX7_takeNumber_8 : decode cX7_takeNumber 8 = .ok (.if_icmp .ge 70, 3) := by decide +kernel
theorem dX7_takeNumber_11 : decode cX7_takeNumber 11 = .ok (.aload_n 0, 1) := by decide +kernel
theorem dX7_takeNumber_12 : decode cX7_takeNumber 12 = .ok (.getfield 9, 3) := by decide +kernel
theorem dX7_takeNumber_15 : decode cX7_takeNumber 15 = .ok (.aload_n 0, 1) := by decide +kernel
theorem dX7_takeNumber_16 : decode cX7_takeNumber 16 = .ok (.getfield 21, 3) := by decide +kernel
theorem dX7_takeNumber_19 : decode cX7_takeNumber 19 = .ok (.baload, 1) := by decide +kernel
theorem dX7_takeNumber_20 : decode cX7_takeNumber 20 = .ok (.bipush 48, 2) := by decide +kernel
theorem dX7_takeNumber_22 : decode cX7_takeNumber 22 = .ok (.if_icmp .lt 56, 3) := by decide +kernel
theorem dX7_takeNumber_25 : decode cX7_takeNumber 25 = .ok (.aload_n 0, 1) := by decide +kernel
theorem dX7_takeNumber_26 : decode cX7_takeNumber 26 = .ok (.getfield 9, 3) := by decide +kernel
theorem dX7_takeNumber_29 : decode cX7_takeNumber 29 = .ok (.aload_n 0, 1) := by decide +kernel
theorem dX7_takeNumber_30 : decode cX7_takeNumber 30 = .ok (.getfield 21, 3) := by decide +kernel
theorem dX7_takeNumber_33 : decode cX7_takeNumber 33 = .ok (.baload, 1) := by decide +kernel
theorem dX7_takeNumber_34 : decode cX7_takeNumber 34 = .ok (.bipush 57, 2) := by decide +kernel
theorem dX7_takeNumber_36 : decode cX7_takeNumber 36 = .ok (.if_icmp .gt 42, 3) := by decide +kernel
theorem dX7_takeNumber_39 : decode cX7_takeNumber 39 = .ok (.aload_n 0, 1) := by decide +kernel
theorem dX7_takeNumber_40 : decode cX7_takeNumber 40 = .ok (.aload_n 0, 1) := by decide +kernel
theorem dX7_takeNumber_41 : decode cX7_takeNumber 41 = .ok (.getfield 30, 3) := by decide +kernel
theorem dX7_takeNumber_44 : decode cX7_takeNumber 44 = .ok (.ldc2_w 46, 3) := by decide +kernel
theorem dX7_takeNumber_47 : decode cX7_takeNumber 47 = .ok (.lmul, 1) := by decide +kernel
theorem dX7_takeNumber_48 : decode cX7_takeNumber 48 = .ok (.aload_n 0, 1) := by decide +kernel
theorem dX7_takeNumber_49 : decode cX7_takeNumber 49 = .ok (.getfield 9, 3) := by decide +kernel
theorem dX7_takeNumber_52 : decode cX7_takeNumber 52 = .ok (.aload_n 0, 1) := by decide +kernel
theorem dX7_takeNumber_53 : decode cX7_takeNumber 53 = .ok (.getfield 21, 3) := by decide +kernel
theorem dX7_takeNumber_56 : decode cX7_takeNumber 56 = .ok (.baload, 1) := by decide +kernel
theorem dX7_takeNumber_57 : decode cX7_takeNumber 57 = .ok (.bipush 48, 2) := by decide +kernel
theorem dX7_takeNumber_59 : decode cX7_takeNumber 59 = .ok (.isub, 1) := by decide +kernel
theorem dX7_takeNumber_60 : decode cX7_takeNumber 60 = .ok (.i2l, 1) := by decide +kernel
theorem dX7_takeNumber_61 : decode cX7_takeNumber 61 = .ok (.ladd, 1) := by decide +kernel
theorem dX7_takeNumber_62 : decode cX7_takeNumber 62 = .ok (.putfield 30, 3) := by decide +kernel
theorem dX7_takeNumber_65 : decode cX7_takeNumber 65 = .ok (.aload_n 0, 1) := by decide +kernel
theorem dX7_takeNumber_66 : decode cX7_takeNumber 66 = .ok (.dup, 1) := by decide +kernel
theorem dX7_takeNumber_67 : decode cX7_takeNumber 67 = .ok (.getfield 21, 3) := by decide +kernel
theorem dX7_takeNumber_70 : decode cX7_takeNumber 70 = .ok (.iconst 1, 1) := by decide +kernel
theorem dX7_takeNumber_71 : decode cX7_takeNumber 71 = .ok (.iadd, 1) := by decide +kernel
theorem dX7_takeNumber_72 : decode cX7_takeNumber 72 = .ok (.putfield 21, 3) := by decide +kernel
theorem dX7_takeNumber_75 : decode cX7_takeNumber 75 = .ok (.goto (-75), 3) := by decide +kernel
theorem dX7_takeNumber_78 : decode cX7_takeNumber 78 = .ok (.aload_n 0, 1) := by decide +kernel
theorem dX7_takeNumber_79 : decode cX7_takeNumber 79 = .ok (.aload_n 0, 1) := by decide +kernel
theorem dX7_takeNumber_80 : decode cX7_takeNumber 80 = .ok (.getfield 21, 3) := by decide +kernel
theorem dX7_takeNumber_83 : decode cX7_takeNumber 83 = .ok (.aload_n 0, 1) := by decide +kernel
theorem dX7_takeNumber_84 : decode cX7_takeNumber 84 = .ok (.getfield 34, 3) := by decide +kernel
theorem dX7_takeNumber_87 : decode cX7_takeNumber 87 = .ok (.isub, 1) := by decide +kernel
theorem dX7_takeNumber_88 : decode cX7_takeNumber 88 = .ok (.iconst 4, 1) := by decide +kernel
theorem dX7_takeNumber_89 : decode cX7_takeNumber 89 = .ok (.if_icmp .gt 7, 3) := by decide +kernel
theorem dX7_takeNumber_92 : decode cX7_takeNumber 92 = .ok (.iconst 3, 1) := by decide +kernel
theorem dX7_takeNumber_93 : decode cX7_takeNumber 93 = .ok (.goto 4, 3) := by decide +kernel
theorem dX7_takeNumber_96 : decode cX7_takeNumber 96 = .ok (.iconst 1, 1) := by decide +kernel
theorem dX7_takeNumber_97 : decode cX7_takeNumber 97 = .ok (.putfield 27, 3) := by decide +kernel
theorem dX7_takeNumber_100 : decode cX7_takeNumber 100 = .ok (.return_, 1) := by decide +kernel
theorem dX7_takeSign_0 : decode cX7_takeSign 0 = .ok (.aload_n 0, 1) := by decide +kernel
theorem dX7_takeSign_1 : decode cX7_takeSign 1 = .ok (.aload_n 0, 1) := by decide +kernel
theorem dX7_takeSign_2 : decode cX7_takeSign 2 = .ok (.getfield 9, 3) := by decide +kernel
theorem dX7_takeSign_5 : decode cX7_takeSign 5 = .ok (.aload_n 0, 1) := by decide +kernel
theorem dX7_takeSign_6 : decode cX7_takeSign 6 = .ok (.getfield 21, 3) := by decide +kernel
theorem dX7_takeSign_9 : decode cX7_takeSign 9 = .ok (.baload, 1) := by decide +kernel
theorem dX7_takeSign_10 : decode cX7_takeSign 10 = .ok (.i2l, 1) := by decide +kernel
theorem dX7_takeSign_11 : decode cX7_takeSign 11 = .ok (.putfield 30, 3) := by decide +kernel
theorem dX7_takeSign_14 : decode cX7_takeSign 14 = .ok (.aload_n 0, 1) := by decide +kernel
theorem dX7_takeSign_15 : decode cX7_takeSign 15 = .ok (.dup, 1) := by decide +kernel
theorem dX7_takeSign_16 : decode cX7_takeSign 16 = .ok (.getfield 21, 3) := by decide +kernel
theorem dX7_takeSign_19 : decode cX7_takeSign 19 = .ok (.iconst 1, 1) := by decide +kernel
theorem dX7_takeSign_20 : decode cX7_takeSign 20 = .ok (.iadd, 1) := by decide +kernel
theorem dX7_takeSign_21 : decode cX7_takeSign 21 = .ok (.putfield 21, 3) := by decide +kernel
theorem dX7_takeSign_24 : decode cX7_takeSign 24 = .ok (.aload_n 0, 1) := by decide +kernel
theorem dX7_takeSign_25 : decode cX7_takeSign 25 = .ok (.ldc 48, 2) := by decide +kernel
theorem dX7_takeSign_27 : decode cX7_takeSign 27 = .ok (.aload_n 0, 1) := by decide +kernel
theorem dX7_takeSign_28 : decode cX7_takeSign 28 = .ok (.getfield 30, 3) := by decide +kernel
theorem dX7_takeSign_31 : decode cX7_takeSign 31 = .ok (.l2i, 1) := by decide +kernel
theorem dX7_takeSign_32 : decode cX7_takeSign 32 = .ok (.i2c, 1) := by decide +kernel
theorem dX7_takeSign_33 : decode cX7_takeSign 33 = .ok (.invokevirtual 50, 3) := by decide +kernel
theorem dX7_takeSign_36 : decode cX7_takeSign 36 = .ok (.ifCond .lt 7, 3) := by decide +kernel
theorem dX7_takeSign_39 : decode cX7_takeSign 39 = .ok (.iconst 4, 1) := by decide +kernel
theorem dX7_takeSign_40 : decode cX7_takeSign 40 = .ok (.goto 4, 3) := by decide +kernel
theorem dX7_takeSign_43 : decode cX7_takeSign 43 = .ok (.iconst 1, 1) := by decide +kernel
theorem dX7_takeSign_44 : decode cX7_takeSign 44 = .ok (.putfield 27, 3) := by decide +kernel
theorem dX7_takeSign_47 : decode cX7_takeSign 47 = .ok (.return_, 1) := by decide +kernel
theorem dX8_init_0 : decode cX8_init 0 = .ok (.aload_n 0, 1) := by decide +kernel
theorem dX8_init_1 : decode cX8_init 1 = .ok (.invokespecial 1, 3) := by decide +kernel
theorem dX8_init_4 : decode cX8_init 4 = .ok (.aload_n 0, 1) := by decide +kernel
theorem dX8_init_5 : decode cX8_init 5 = .ok (.new 7, 3) := by decide +kernel
theorem dX8_init_8 : decode cX8_init 8 = .ok (.dup, 1) := by decide +kernel
theorem dX8_init_9 : decode cX8_init 9 = .ok (.invokespecial 9, 3) := by decide +kernel
theorem dX8_init_12 : decode cX8_init 12 = .ok (.putfield 10, 3) := by decide +kernel
theorem dX8_init_15 : decode cX8_init 15 = .ok (.aload_n 0, 1) := by decide +kernel
theorem dX8_init_16 : decode cX8_init 16 = .ok (.new 16, 3) := by decide +kernel
theorem dX8_init_19 : decode cX8_init 19 = .ok (.dup, 1) := by decide +kernel
theorem dX8_init_20 : decode cX8_init 20 = .ok (.invokespecial 18, 3) := by decide +kernel
theorem dX8_init_23 : decode cX8_init 23 = .ok (.putfield 19, 3) := by decide +kernel
theorem dX8_init_26 : decode cX8_init 26 = .ok (.aload_n 0, 1) := by decide +kernel
theorem dX8_init_27 : decode cX8_init 27 = .ok (.new 16, 3) := by decide +kernel
theorem dX8_init_30 : decode cX8_init 30 = .ok (.dup, 1) := by decide +kernel
theorem dX8_init_31 : decode cX8_init 31 = .ok (.invokespecial 18, 3) := by decide +kernel
theorem dX8_init_34 : decode cX8_init 34 = .ok (.putfield 23, 3) := by decide +kernel
theorem dX8_init_37 : decode cX8_init 37 = .ok (.aload_n 0, 1) := by decide +kernel
theorem dX8_init_38 : decode cX8_init 38 = .ok (.new 26, 3) := by decide +kernel
theorem dX8_init_41 : decode cX8_init 41 = .ok (.dup, 1) := by decide +kernel
theorem dX8_init_42 : decode cX8_init 42 = .ok (.invokespecial 28, 3) := by decide +kernel
theorem dX8_init_45 : decode cX8_init 45 = .ok (.putfield 29, 3) := by decide +kernel
theorem dX8_init_48 : decode cX8_init 48 = .ok (.aload_n 0, 1) := by decide +kernel
theorem dX8_init_49 : decode cX8_init 49 = .ok (.new 26, 3) := by decide +kernel
theorem dX8_init_52 : decode cX8_init 52 = .ok (.dup, 1) := by decide +kernel
theorem dX8_init_53 : decode cX8_init 53 = .ok (.invokespecial 28, 3) := by decide +kernel
theorem dX8_init_56 : decode cX8_init 56 = .ok (.putfield 33, 3) := by decide +kernel
theorem dX8_init_59 : decode cX8_init 59 = .ok (.aload_n 0, 1) := by decide +kernel
theorem dX8_init_60 : decode cX8_init 60 = .ok (.new 36, 3) := by decide +kernel
theorem dX8_init_63 : decode cX8_init 63 = .ok (.dup, 1) := by decide +kernel
theorem dX8_init_64 : decode cX8_init 64 = .ok (.invokespecial 38, 3) := by decide +kernel
theorem dX8_init_67 : decode cX8_init 67 = .ok (.putfield 39, 3) := by decide +kernel
theorem dX8_init_70 : decode cX8_init 70 = .ok (.aload_n 0, 1) := by decide +kernel
theorem dX8_init_71 : decode cX8_init 71 = .ok (.new 36, 3) := by decide +kernel
theorem dX8_init_74 : decode cX8_init 74 = .ok (.dup, 1) := by decide +kernel
theorem dX8_init_75 : decode cX8_init 75 = .ok (.invokespecial 38, 3) := by decide +kernel
theorem dX8_init_78 : decode cX8_init 78 = .ok (.putfield 43, 3) := by decide +kernel
theorem dX8_init_81 : decode cX8_init 81 = .ok (.aload_n 0, 1) := by decide +kernel
theorem dX8_init_82 : decode cX8_init 82 = .ok (.bipush 16, 2) := by decide +kernel
theorem dX8_init_84 : decode cX8_init 84 = .ok (.anewarray 36, 3) := by decide +kernel
theorem dX8_init_87 : decode cX8_init 87 = .ok (.putfield 46, 3) := by decide +kernel
theorem dX8_init_90 : decode cX8_init 90 = .ok (.aload_n 0, 1) := by decide +kernel
theorem dX8_init_91 : decode cX8_init 91 = .ok (.iconst 4, 1) := by decide +kernel
theorem dX8_init_92 : decode cX8_init 92 = .ok (.anewarray 50, 3) := by decide +kernel
theorem dX8_init_95 : decode cX8_init 95 = .ok (.putfield 52, 3) := by decide +kernel
theorem dX8_init_98 : decode cX8_init 98 = .ok (.aload_n 0, 1) := by decide +kernel
theorem dX8_init_99 : decode cX8_init 99 = .ok (.new 56, 3) := by decide +kernel
theorem dX8_init_102 : decode cX8_init 102 = .ok (.dup, 1) := by decide +kernel
theorem dX8_init_103 : decode cX8_init 103 = .ok (.invokespecial 58, 3) := by decide +kernel
theorem dX8_init_106 : decode cX8_init 106 = .ok (.putfield 59, 3) := by decide +kernel
theorem dX8_init_109 : decode cX8_init 109 = .ok (.aload_n 0, 1) := by decide +kernel
theorem dX8_init_110 : decode cX8_init 110 = .ok (.new 56, 3) := by decide +kernel
theorem dX8_init_113 : decode cX8_init 113 = .ok (.dup, 1) := by decide +kernel
theorem dX8_init_114 : decode cX8_init 114 = .ok (.invokespecial 58, 3) := by decide +kernel
theorem dX8_init_117 : decode cX8_init 117 = .ok (.putfield 63, 3) := by decide +kernel
theorem dX8_init_120 : decode cX8_init 120 = .ok (.aload_n 0, 1) := by decide +kernel
theorem dX8_init_121 : decode cX8_init 121 = .ok (.bipush 6, 2) := by decide +kernel
theorem dX8_init_123 : decode cX8_init 123 = .ok (.newarray .int, 2) := by decide +kernel
theorem dX8_init_125 : decode cX8_init 125 = .ok (.putfield 66, 3) := by decide +kernel
theorem dX8_init_128 : decode cX8_init 128 = .ok (.iconst 0, 1) := by decide +kernel
theorem dX8_init_129 : decode cX8_init 129 = .ok (.istore_n 1, 1) := by decide +kernel
theorem dX8_init_130 : decode cX8_init 130 = .ok (.iload_n 1, 1) := by decide +kernel
theorem dX8_init_131 : decode cX8_init 131 = .ok (.aload_n 0, 1) := by decide +kernel
theorem dX8_init_132 : decode cX8_init 132 = .ok (.getfield 46, 3) := by decide +kernel
theorem dX8_init_135 : decode cX8_init 135 = .ok (.arraylength, 1) := by decide +kernel
theorem dX8_init_136 : decode cX8_init 136 = .ok (.if_icmp .ge 22, 3) := by decide +kernel
theorem dX8_init_139 : decode cX8_init 139 = .ok (.aload_n 0, 1) := by decide +kernel
theorem dX8_init_140 : decode cX8_init 140 = .ok (.getfield 46, 3) := by decide +kernel
theorem dX8_init_143 : decode cX8_init 143 = .ok (.iload_n 1, 1) := by decide +kernel
theorem dX8_init_144 : decode cX8_init 144 = .ok (.new 36, 3) := by decide +kernel
theorem dX8_init_147 : decode cX8_init 147 = .ok (.dup, 1) := by decide +kernel
theorem dX8_init_148 : decode cX8_init 148 = .ok (.invokespecial 38, 3) := by decide +kernel
theorem dX8_init_151 : decode cX8_init 151 = .ok (.aastore, 1) := by decide +kernel
theorem dX8_init_152 : decode cX8_init 152 = .ok (.iinc 1 1, 3) := by decide +kernel
theorem dX8_init_155 : decode cX8_init 155 = .ok (.goto (-25), 3) := by decide +kernel
theorem dX8_init_158 : decode cX8_init 158 = .ok (.iconst 0, 1) := by decide +kernel
theorem dX8_init_159 : decode cX8_init 159 = .ok (.istore_n 1, 1) := by decide +kernel
theorem dX8_init_160 : decode cX8_init 160 = .ok (.iload_n 1, 1) := by decide +kernel
theorem dX8_init_161 : decode cX8_init 161 = .ok (.aload_n 0, 1) := by decide +kernel
theorem dX8_init_162 : decode cX8_init 162 = .ok (.getfield 52, 3) := by decide +kernel
theorem dX8_init_165 : decode cX8_init 165 = .ok (.arraylength, 1) := by decide +kernel
theorem dX8_init_166 : decode cX8_init 166 = .ok (.if_icmp .ge 22, 3) := by decide +kernel
theorem dX8_init_169 : decode cX8_init 169 = .ok (.aload_n 0, 1) := by decide +kernel
theorem dX8_init_170 : decode cX8_init 170 = .ok (.getfield 52, 3) := by decide +kernel
theorem dX8_init_173 : decode cX8_init 173 = .ok (.iload_n 1, 1) := by decide +kernel
theorem dX8_init_174 : decode cX8_init 174 = .ok (.new 50, 3) := by decide +kernel
theorem dX8_init_177 : decode cX8_init 177 = .ok (.dup, 1) := by decide +kernel
theorem dX8_init_178 : decode cX8_init 178 = .ok (.invokespecial 70, 3) := by decide +kernel
theorem dX8_init_181 : decode cX8_init 181 = .ok (.aastore, 1) := by decide +kernel
theorem dX8_init_182 : decode cX8_init 182 = .ok (.iinc 1 1, 3) := by decide +kernel
theorem dX8_init_185 : decode cX8_init 185 = .ok (.goto (-25), 3) := by decide +kernel
theorem dX8_init_188 : decode cX8_init 188 = .ok (.return_, 1) := by decide +kernel
theorem dX8_feed_0 : decode cX8_feed 0 = .ok (.aload_n 0, 1) := by decide +kernel
theorem dX8_feed_1 : decode cX8_feed 1 = .ok (.getfield 10, 3) := by decide +kernel
theorem dX8_feed_4 : decode cX8_feed 4 = .ok (.getfield 71, 3) := by decide +kernel
theorem dX8_feed_7 : decode cX8_feed 7 = .ok (.lload_n 1, 1) := by decide +kernel
theorem dX8_feed_8 : decode cX8_feed 8 = .ok (.invokevirtual 75, 3) := by decide +kernel
theorem dX8_feed_11 : decode cX8_feed 11 = .ok (.aload_n 0, 1) := by decide +kernel
theorem dX8_feed_12 : decode cX8_feed 12 = .ok (.getfield 10, 3) := by decide +kernel
theorem dX8_feed_15 : decode cX8_feed 15 = .ok (.getfield 71, 3) := by decide +kernel
theorem dX8_feed_18 : decode cX8_feed 18 = .ok (.lload_n 3, 1) := by decide +kernel
theorem dX8_feed_19 : decode cX8_feed 19 = .ok (.invokevirtual 75, 3) := by decide +kernel
theorem dX8_feed_22 : decode cX8_feed 22 = .ok (.aload_n 0, 1) := by decide +kernel
theorem dX8_feed_23 : decode cX8_feed 23 = .ok (.getfield 10, 3) := by decide +kernel
theorem dX8_feed_26 : decode cX8_feed 26 = .ok (.getfield 71, 3) := by decide +kernel
theorem dX8_feed_29 : decode cX8_feed 29 = .ok (.lload 5, 2) := by decide +kernel
theorem dX8_feed_31 : decode cX8_feed 31 = .ok (.invokevirtual 75, 3) := by decide +kernel
theorem dX8_feed_34 : decode cX8_feed 34 = .ok (.aload_n 0, 1) := by decide +kernel
theorem dX8_feed_35 : decode cX8_feed 35 = .ok (.getfield 10, 3) := by decide +kernel
theorem dX8_feed_38 : decode cX8_feed 38 = .ok (.getfield 71, 3) := by decide +kernel
theorem dX8_feed_41 : decode cX8_feed 41 = .ok (.getfield 81, 3) := by decide +kernel
theorem dX8_feed_44 : decode cX8_feed 44 = .ok (.ireturn, 1) := by decide +kernel
theorem dX8_office_0 : decode cX8_office 0 = .ok (.aload_n 0, 1) := by decide +kernel
theorem dX8_office_1 : decode cX8_office 1 = .ok (.getfield 10, 3) := by decide +kernel
theorem dX8_office_4 : decode cX8_office 4 = .ok (.aload_n 0, 1) := by decide +kernel
theorem dX8_office_5 : decode cX8_office 5 = .ok (.getfield 23, 3) := by decide +kernel
theorem dX8_office_8 : decode cX8_office 8 = .ok (.invokevirtual 85, 3) := by decide +kernel
theorem dX8_office_11 : decode cX8_office 11 = .ok (.istore_n 1, 1) := by decide +kernel
theorem dX8_office_12 : decode cX8_office 12 = .ok (.iload_n 1, 1) := by decide +kernel
theorem dX8_office_13 : decode cX8_office 13 = .ok (.ifCond .ne 7, 3) := by decide +kernel
theorem dX8_office_16 : decode cX8_office 16 = .ok (.aload_n 0, 1) := by decide +kernel
theorem dX8_office_17 : decode cX8_office 17 = .ok (.invokevirtual 89, 3) := by decide +kernel
theorem dX8_office_20 : decode cX8_office 20 = .ok (.iload_n 1, 1) := by decide +kernel
theorem dX8_office_21 : decode cX8_office 21 = .ok (.ireturn, 1) := by decide +kernel
theorem dX8_day_0 : decode cX8_day 0 = .ok (.aload_n 0, 1) := by decide +kernel
theorem dX8_day_1 : decode cX8_day 1 = .ok (.getfield 10, 3) := by decide +kernel
theorem dX8_day_4 : decode cX8_day 4 = .ok (.aload_n 0, 1) := by decide +kernel
theorem dX8_day_5 : decode cX8_day 5 = .ok (.getfield 33, 3) := by decide +kernel
theorem dX8_day_8 : decode cX8_day 8 = .ok (.aload_n 0, 1) := by decide +kernel
theorem dX8_day_9 : decode cX8_day 9 = .ok (.getfield 19, 3) := by decide +kernel
theorem dX8_day_12 : decode cX8_day 12 = .ok (.invokevirtual 92, 3) := by decide +kernel
theorem dX8_day_15 : decode cX8_day 15 = .ok (.istore_n 1, 1) := by decide +kernel
theorem dX8_day_16 : decode cX8_day 16 = .ok (.iload_n 1, 1) := by decide +kernel
theorem dX8_day_17 : decode cX8_day 17 = .ok (.ifCond .ne 21, 3) := by decide +kernel
theorem dX8_day_20 : decode cX8_day 20 = .ok (.aload_n 0, 1) := by decide +kernel
theorem dX8_day_21 : decode cX8_day 21 = .ok (.getfield 29, 3) := by decide +kernel
theorem dX8_day_24 : decode cX8_day 24 = .ok (.astore_n 2, 1) := by decide +kernel
theorem dX8_day_25 : decode cX8_day 25 = .ok (.aload_n 0, 1) := by decide +kernel
theorem dX8_day_26 : decode cX8_day 26 = .ok (.aload_n 0, 1) := by decide +kernel
theorem dX8_day_27 : decode cX8_day 27 = .ok (.getfield 33, 3) := by decide +kernel
theorem dX8_day_30 : decode cX8_day 30 = .ok (.putfield 29, 3) := by decide +kernel
