theorem dX0_init_0 : decode cX0_init 0 = .ok (.aload_n 0, 1) := by decide +kernel
theorem dX0_init_1 : decode cX0_init 1 = .ok (.invokespecial 3, 3) := by decide +kernel
theorem dX0_init_4 : decode cX0_init 4 = .ok (.aload_n 0, 1) := by decide +kernel
theorem dX0_init_5 : decode cX0_init 5 = .ok (.iconst 1, 1) := by decide +kernel
theorem dX0_init_6 : decode cX0_init 6 = .ok (.putfield 9, 3) := by decide +kernel
theorem dX0_init_9 : decode cX0_init 9 = .ok (.aload_n 0, 1) := by decide +kernel
theorem dX0_init_10 : decode cX0_init 10 = .ok (.iconst 0, 1) := by decide +kernel
theorem dX0_init_11 : decode cX0_init 11 = .ok (.putfield 15, 3) := by decide +kernel
theorem dX0_init_14 : decode cX0_init 14 = .ok (.aload_n 0, 1) := by decide +kernel
theorem dX0_init_15 : decode cX0_init 15 = .ok (.iconst (-1), 1) := by decide +kernel
theorem dX0_init_16 : decode cX0_init 16 = .ok (.putfield 19, 3) := by decide +kernel
theorem dX0_init_19 : decode cX0_init 19 = .ok (.aload_n 0, 1) := by decide +kernel
theorem dX0_init_20 : decode cX0_init 20 = .ok (.iconst (-1), 1) := by decide +kernel
theorem dX0_init_21 : decode cX0_init 21 = .ok (.putfield 22, 3) := by decide +kernel
theorem dX0_init_24 : decode cX0_init 24 = .ok (.return_, 1) := by decide +kernel
theorem dX0_copyFrom_0 : decode cX0_copyFrom 0 = .ok (.aload_n 0, 1) := by decide +kernel
theorem dX0_copyFrom_1 : decode cX0_copyFrom 1 = .ok (.aload_n 1, 1) := by decide +kernel
theorem dX0_copyFrom_2 : decode cX0_copyFrom 2 = .ok (.getfield 25, 3) := by decide +kernel
theorem dX0_copyFrom_5 : decode cX0_copyFrom 5 = .ok (.putfield 25, 3) := by decide +kernel
theorem dX0_copyFrom_8 : decode cX0_copyFrom 8 = .ok (.aload_n 0, 1) := by decide +kernel
theorem dX0_copyFrom_9 : decode cX0_copyFrom 9 = .ok (.aload_n 1, 1) := by decide +kernel
theorem dX0_copyFrom_10 : decode cX0_copyFrom 10 = .ok (.getfield 28, 3) := by decide +kernel
theorem dX0_copyFrom_13 : decode cX0_copyFrom 13 = .ok (.putfield 28, 3) := by decide +kernel
theorem dX0_copyFrom_16 : decode cX0_copyFrom 16 = .ok (.aload_n 0, 1) := by decide +kernel
theorem dX0_copyFrom_17 : decode cX0_copyFrom 17 = .ok (.aload_n 1, 1) := by decide +kernel
theorem dX0_copyFrom_18 : decode cX0_copyFrom 18 = .ok (.getfield 31, 3) := by decide +kernel
theorem dX0_copyFrom_21 : decode cX0_copyFrom 21 = .ok (.putfield 31, 3) := by decide +kernel
theorem dX0_copyFrom_24 : decode cX0_copyFrom 24 = .ok (.aload_n 0, 1) := by decide +kernel
theorem dX0_copyFrom_25 : decode cX0_copyFrom 25 = .ok (.aload_n 1, 1) := by decide +kernel
theorem dX0_copyFrom_26 : decode cX0_copyFrom 26 = .ok (.getfield 34, 3) := by decide +kernel
theorem dX0_copyFrom_29 : decode cX0_copyFrom 29 = .ok (.putfield 34, 3) := by decide +kernel
theorem dX0_copyFrom_32 : decode cX0_copyFrom 32 = .ok (.aload_n 0, 1) := by decide +kernel
theorem dX0_copyFrom_33 : decode cX0_copyFrom 33 = .ok (.aload_n 1, 1) := by decide +kernel
theorem dX0_copyFrom_34 : decode cX0_copyFrom 34 = .ok (.getfield 37, 3) := by decide +kernel
theorem dX0_copyFrom_37 : decode cX0_copyFrom 37 = .ok (.putfield 37, 3) := by decide +kernel
theorem dX0_copyFrom_40 : decode cX0_copyFrom 40 = .ok (.aload_n 0, 1) := by decide +kernel
theorem dX0_copyFrom_41 : decode cX0_copyFrom 41 = .ok (.aload_n 1, 1) := by decide +kernel
theorem dX0_copyFrom_42 : decode cX0_copyFrom 42 = .ok (.getfield 40, 3) := by decide +kernel
theorem dX0_copyFrom_45 : decode cX0_copyFrom 45 = .ok (.putfield 40, 3) := by decide +kernel
theorem dX0_copyFrom_48 : decode cX0_copyFrom 48 = .ok (.aload_n 0, 1) := by decide +kernel
theorem dX0_copyFrom_49 : decode cX0_copyFrom 49 = .ok (.aload_n 1, 1) := by decide +kernel
theorem dX0_copyFrom_50 : decode cX0_copyFrom 50 = .ok (.getfield 9, 3) := by decide +kernel
theorem dX0_copyFrom_53 : decode cX0_copyFrom 53 = .ok (.putfield 9, 3) := by decide +kernel
theorem dX0_copyFrom_56 : decode cX0_copyFrom 56 = .ok (.aload_n 0, 1) := by decide +kernel
theorem dX0_copyFrom_57 : decode cX0_copyFrom 57 = .ok (.aload_n 1, 1) := by decide +kernel
theorem dX0_copyFrom_58 : decode cX0_copyFrom 58 = .ok (.getfield 15, 3) := by decide +kernel
theorem dX0_copyFrom_61 : decode cX0_copyFrom 61 = .ok (.putfield 15, 3) := by decide +kernel
theorem dX0_copyFrom_64 : decode cX0_copyFrom 64 = .ok (.aload_n 0, 1) := by decide +kernel
theorem dX0_copyFrom_65 : decode cX0_copyFrom 65 = .ok (.aload_n 1, 1) := by decide +kernel
theorem dX0_copyFrom_66 : decode cX0_copyFrom 66 = .ok (.getfield 43, 3) := by decide +kernel
theorem dX0_copyFrom_69 : decode cX0_copyFrom 69 = .ok (.putfield 43, 3) := by decide +kernel
theorem dX0_copyFrom_72 : decode cX0_copyFrom 72 = .ok (.aload_n 0, 1) := by decide +kernel
theorem dX0_copyFrom_73 : decode cX0_copyFrom 73 = .ok (.aload_n 1, 1) := by decide +kernel
theorem dX0_copyFrom_74 : decode cX0_copyFrom 74 = .ok (.getfield 19, 3) := by decide +kernel
theorem dX0_copyFrom_77 : decode cX0_copyFrom 77 = .ok (.putfield 19, 3) := by decide +kernel
theorem dX0_copyFrom_80 : decode cX0_copyFrom 80 = .ok (.aload_n 0, 1) := by decide +kernel
theorem dX0_copyFrom_81 : decode cX0_copyFrom 81 = .ok (.aload_n 1, 1) := by decide +kernel
theorem dX0_copyFrom_82 : decode cX0_copyFrom 82 = .ok (.getfield 46, 3) := by decide +kernel
theorem dX0_copyFrom_85 : decode cX0_copyFrom 85 = .ok (.putfield 46, 3) := by decide +kernel
theorem dX0_copyFrom_88 : decode cX0_copyFrom 88 = .ok (.aload_n 0, 1) := by decide +kernel
theorem dX0_copyFrom_89 : decode cX0_copyFrom 89 = .ok (.aload_n 1, 1) := by decide +kernel
theorem dX0_copyFrom_90 : decode cX0_copyFrom 90 = .ok (.getfield 22, 3) := by decide +kernel
theorem dX0_copyFrom_93 : decode cX0_copyFrom 93 = .ok (.putfield 22, 3) := by decide +kernel
theorem dX0_copyFrom_96 : decode cX0_copyFrom 96 = .ok (.return_, 1) := by decide +kernel
theorem dX0_landAt_0 : decode cX0_landAt 0 = .ok (.aload_n 0, 1) := by decide +kernel
theorem dX0_landAt_1 : decode cX0_landAt 1 = .ok (.iconst 0, 1) := by decide +kernel
theorem dX0_landAt_2 : decode cX0_landAt 2 = .ok (.putfield 15, 3) := by decide +kernel
theorem dX0_landAt_5 : decode cX0_landAt 5 = .ok (.aload_n 0, 1) := by decide +kernel
theorem dX0_landAt_6 : decode cX0_landAt 6 = .ok (.iconst (-1), 1) := by decide +kernel
theorem dX0_landAt_7 : decode cX0_landAt 7 = .ok (.putfield 19, 3) := by decide +kernel
theorem dX0_landAt_10 : decode cX0_landAt 10 = .ok (.aload_n 0, 1) := by decide +kernel
theorem dX0_landAt_11 : decode cX0_landAt 11 = .ok (.iload_n 1, 1) := by decide +kernel
theorem dX0_landAt_12 : decode cX0_landAt 12 = .ok (.putfield 22, 3) := by decide +kernel
theorem dX0_landAt_15 : decode cX0_landAt 15 = .ok (.return_, 1) := by decide +kernel
theorem dX0_goDown_0 : decode cX0_goDown 0 = .ok (.aload_n 0, 1) := by decide +kernel
theorem dX0_goDown_1 : decode cX0_goDown 1 = .ok (.iconst 2, 1) := by decide +kernel
theorem dX0_goDown_2 : decode cX0_goDown 2 = .ok (.putfield 15, 3) := by decide +kernel
theorem dX0_goDown_5 : decode cX0_goDown 5 = .ok (.aload_n 0, 1) := by decide +kernel
theorem dX0_goDown_6 : decode cX0_goDown 6 = .ok (.iconst (-1), 1) := by decide +kernel
theorem dX0_goDown_7 : decode cX0_goDown 7 = .ok (.putfield 19, 3) := by decide +kernel
theorem dX0_goDown_10 : decode cX0_goDown 10 = .ok (.aload_n 0, 1) := by decide +kernel
theorem dX0_goDown_11 : decode cX0_goDown 11 = .ok (.iconst 0, 1) := by decide +kernel
theorem dX0_goDown_12 : decode cX0_goDown 12 = .ok (.putfield 37, 3) := by decide +kernel
theorem dX0_goDown_15 : decode cX0_goDown 15 = .ok (.return_, 1) := by decide +kernel
theorem dX0_nextCellHome_0 : decode cX0_nextCellHome 0 = .ok (.aload_n 0, 1) := by decide +kernel
theorem dX0_nextCellHome_1 : decode cX0_nextCellHome 1 = .ok (.getfield 43, 3) := by decide +kernel
theorem dX0_nextCellHome_4 : decode cX0_nextCellHome 4 = .ok (.iconst 5, 1) := by decide +kernel
theorem dX0_nextCellHome_5 : decode cX0_nextCellHome 5 = .ok (.idiv, 1) := by decide +kernel
theorem dX0_nextCellHome_6 : decode cX0_nextCellHome 6 = .ok (.aload_n 0, 1) := by decide +kernel
theorem dX0_nextCellHome_7 : decode cX0_nextCellHome 7 = .ok (.getfield 31, 3) := by decide +kernel
theorem dX0_nextCellHome_10 : decode cX0_nextCellHome 10 = .ok (.iconst 5, 1) := by decide +kernel
theorem dX0_nextCellHome_11 : decode cX0_nextCellHome 11 = .ok (.idiv, 1) := by decide +kernel
theorem dX0_nextCellHome_12 : decode cX0_nextCellHome 12 = .ok (.if_icmp .eq 30, 3) := by decide +kernel
theorem dX0_nextCellHome_15 : decode cX0_nextCellHome 15 = .ok (.aload_n 0, 1) := by decide +kernel
theorem dX0_nextCellHome_16 : decode cX0_nextCellHome 16 = .ok (.getfield 43, 3) := by decide +kernel
theorem dX0_nextCellHome_19 : decode cX0_nextCellHome 19 = .ok (.aload_n 0, 1) := by decide +kernel
theorem dX0_nextCellHome_20 : decode cX0_nextCellHome 20 = .ok (.getfield 31, 3) := by decide +kernel
theorem dX0_nextCellHome_23 : decode cX0_nextCellHome 23 = .ok (.if_icmp .ge 12, 3) := by decide +kernel
theorem dX0_nextCellHome_26 : decode cX0_nextCellHome 26 = .ok (.aload_n 0, 1) := by decide +kernel
theorem dX0_nextCellHome_27 : decode cX0_nextCellHome 27 = .ok (.getfield 43, 3) := by decide +kernel
theorem dX0_nextCellHome_30 : decode cX0_nextCellHome 30 = .ok (.iconst 5, 1) := by decide +kernel
theorem dX0_nextCellHome_31 : decode cX0_nextCellHome 31 = .ok (.iadd, 1) := by decide +kernel
theorem dX0_nextCellHome_32 : decode cX0_nextCellHome 32 = .ok (.goto 9, 3) := by decide +kernel
theorem dX0_nextCellHome_35 : decode cX0_nextCellHome 35 = .ok (.aload_n 0, 1) := by decide +kernel
theorem dX0_nextCellHome_36 : decode cX0_nextCellHome 36 = .ok (.getfield 43, 3) := by decide +kernel
theorem dX0_nextCellHome_39 : decode cX0_nextCellHome 39 = .ok (.iconst 5, 1) := by decide +kernel
theorem dX0_nextCellHome_40 : decode cX0_nextCellHome 40 = .ok (.isub, 1) := by decide +kernel
theorem dX0_nextCellHome_41 : decode cX0_nextCellHome 41 = .ok (.ireturn, 1) := by decide +kernel
theorem dX0_nextCellHome_42 : decode cX0_nextCellHome 42 = .ok (.aload_n 0, 1) := by decide +kernel
theorem dX0_nextCellHome_43 : decode cX0_nextCellHome 43 = .ok (.getfield 43, 3) := by decide +kernel
theorem dX0_nextCellHome_46 : decode cX0_nextCellHome 46 = .ok (.aload_n 0, 1) := by decide +kernel
theorem dX0_nextCellHome_47 : decode cX0_nextCellHome 47 = .ok (.getfield 31, 3) := by decide +kernel
theorem dX0_nextCellHome_50 : decode cX0_nextCellHome 50 = .ok (.if_icmp .ne 8, 3) := by decide +kernel
theorem dX0_nextCellHome_53 : decode cX0_nextCellHome 53 = .ok (.aload_n 0, 1) := by decide +kernel
theorem dX0_nextCellHome_54 : decode cX0_nextCellHome 54 = .ok (.getfield 43, 3) := by decide +kernel
theorem dX0_nextCellHome_57 : decode cX0_nextCellHome 57 = .ok (.ireturn, 1) := by decide +kernel
theorem dX0_nextCellHome_58 : decode cX0_nextCellHome 58 = .ok (.aload_n 0, 1) := by decide +kernel
theorem dX0_nextCellHome_59 : decode cX0_nextCellHome 59 = .ok (.getfield 43, 3) := by decide +kernel
theorem dX0_nextCellHome_62 : decode cX0_nextCellHome 62 = .ok (.aload_n 0, 1) := by decide +kernel
theorem dX0_nextCellHome_63 : decode cX0_nextCellHome 63 = .ok (.getfield 31, 3) := by decide +kernel
theorem dX0_nextCellHome_66 : decode cX0_nextCellHome 66 = .ok (.if_icmp .ge 12, 3) := by decide +kernel
theorem dX0_nextCellHome_69 : decode cX0_nextCellHome 69 = .ok (.aload_n 0, 1) := by decide +kernel
theorem dX0_nextCellHome_70 : decode cX0_nextCellHome 70 = .ok (.getfield 43, 3) := by decide +kernel
theorem dX0_nextCellHome_73 : decode cX0_nextCellHome 73 = .ok (.iconst 1, 1) := by decide +kernel
theorem dX0_nextCellHome_74 : decode cX0_nextCellHome 74 = .ok (.iadd, 1) := by decide +kernel
theorem dX0_nextCellHome_75 : decode cX0_nextCellHome 75 = .ok (.goto 9, 3) := by decide +kernel
theorem dX0_nextCellHome_78 : decode cX0_nextCellHome 78 = .ok (.aload_n 0, 1) := by decide +kernel
theorem dX0_nextCellHome_79 : decode cX0_nextCellHome 79 = .ok (.getfield 43, 3) := by decide +kernel
theorem dX0_nextCellHome_82 : decode cX0_nextCellHome 82 = .ok (.iconst 1, 1) := by decide +kernel
theorem dX0_nextCellHome_83 : decode cX0_nextCellHome 83 = .ok (.isub, 1) := by decide +kernel
theorem dX0_nextCellHome_84 : decode cX0_nextCellHome 84 = .ok (.ireturn, 1) := by decide +kernel
theorem dX1_init_0 : decode cX1_init 0 = .ok (.aload_n 0, 1) := by decide +kernel
theorem dX1_init_1 : decode cX1_init 1 = .ok (.invokespecial 3, 3) := by decide +kernel
theorem dX1_init_4 : decode cX1_init 4 = .ok (.aload_n 0, 1) := by decide +kernel
theorem dX1_init_5 : decode cX1_init 5 = .ok (.new 9, 3) := by decide +kernel
theorem dX1_init_8 : decode cX1_init 8 = .ok (.dup, 1) := by decide +kernel
theorem dX1_init_9 : decode cX1_init 9 = .ok (.invokespecial 11, 3) := by decide +kernel
theorem dX1_init_12 : decode cX1_init 12 = .ok (.putfield 12, 3) := by decide +kernel
theorem dX1_init_15 : decode cX1_init 15 = .ok (.return_, 1) := by decide +kernel
theorem dX1_copyFrom_0 : decode cX1_copyFrom 0 = .ok (.aload_n 0, 1) := by decide +kernel
theorem dX1_copyFrom_1 : decode cX1_copyFrom 1 = .ok (.aload_n 1, 1) := by decide +kernel
theorem dX1_copyFrom_2 : decode cX1_copyFrom 2 = .ok (.getfield 18, 3) := by decide +kernel
theorem dX1_copyFrom_5 : decode cX1_copyFrom 5 = .ok (.putfield 18, 3) := by decide +kernel
theorem dX1_copyFrom_8 : decode cX1_copyFrom 8 = .ok (.aload_n 0, 1) := by decide +kernel
theorem dX1_copyFrom_9 : decode cX1_copyFrom 9 = .ok (.aload_n 1, 1) := by decide +kernel
theorem dX1_copyFrom_10 : decode cX1_copyFrom 10 = .ok (.getfield 22, 3) := by decide +kernel
theorem dX1_copyFrom_13 : decode cX1_copyFrom 13 = .ok (.putfield 22, 3) := by decide +kernel
theorem dX1_copyFrom_16 : decode cX1_copyFrom 16 = .ok (.aload_n 0, 1) := by decide +kernel
theorem dX1_copyFrom_17 : decode cX1_copyFrom 17 = .ok (.aload_n 1, 1) := by decide +kernel
theorem dX1_copyFrom_18 : decode cX1_copyFrom 18 = .ok (.getfield 25, 3) := by decide +kernel
theorem dX1_copyFrom_21 : decode cX1_copyFrom 21 = .ok (.putfield 25, 3) := by decide +kernel
theorem dX1_copyFrom_24 : decode cX1_copyFrom 24 = .ok (.aload_n 0, 1) := by decide +kernel
theorem dX1_copyFrom_25 : decode cX1_copyFrom 25 = .ok (.getfield 12, 3) := by decide +kernel
theorem dX1_copyFrom_28 : decode cX1_copyFrom 28 = .ok (.aload_n 1, 1) := by decide +kernel
theorem dX1_copyFrom_29 : decode cX1_copyFrom 29 = .ok (.getfield 12, 3) := by decide +kernel
theorem dX1_copyFrom_32 : decode cX1_copyFrom 32 = .ok (.invokevirtual 28, 3) := by decide +kernel
theorem dX1_copyFrom_35 : decode cX1_copyFrom 35 = .ok (.return_, 1) := by decide +kernel
theorem dX1_isAhead_0 : decode cX1_isAhead 0 = .ok (.aload_n 0, 1) := by decide +kernel
theorem dX1_isAhead_1 : decode cX1_isAhead 1 = .ok (.getfield 25, 3) := by decide +kernel
theorem dX1_isAhead_4 : decode cX1_isAhead 4 = .ok (.ifCond .eq 11, 3) := by decide +kernel
theorem dX1_isAhead_7 : decode cX1_isAhead 7 = .ok (.aload_n 0, 1) := by decide +kernel
theorem dX1_isAhead_8 : decode cX1_isAhead 8 = .ok (.getfield 25, 3) := by decide +kernel
theorem dX1_isAhead_11 : decode cX1_isAhead 11 = .ok (.iconst 1, 1) := by decide +kernel
theorem dX1_isAhead_12 : decode cX1_isAhead 12 = .ok (.if_icmp .ne 7, 3) := by decide +kernel
theorem dX1_isAhead_15 : decode cX1_isAhead 15 = .ok (.iconst 1, 1) := by decide +kernel
theorem dX1_isAhead_16 : decode cX1_isAhead 16 = .ok (.goto 4, 3) := by decide +kernel
theorem dX1_isAhead_19 : decode cX1_isAhead 19 = .ok (.iconst 0, 1) := by decide +kernel
theorem dX1_isAhead_20 : decode cX1_isAhead 20 = .ok (.ireturn, 1) := by decide +kernel
theorem dX1_isPlannedOn_0 : decode cX1_isPlannedOn 0 = .ok (.aload_n 0, 1) := by decide +kernel
theorem dX1_isPlannedOn_1 : decode cX1_isPlannedOn 1 = .ok (.invokevirtual 32, 3) := by decide +kernel
theorem dX1_isPlannedOn_4 : decode cX1_isPlannedOn 4 = .ok (.ifCond .ne 11, 3) := by decide +kernel
theorem dX1_isPlannedOn_7 : decode cX1_isPlannedOn 7 = .ok (.aload_n 0, 1) := by decide +kernel
theorem dX1_isPlannedOn_8 : decode cX1_isPlannedOn 8 = .ok (.getfield 25, 3) := by decide +kernel
theorem dX1_isPlannedOn_11 : decode cX1_isPlannedOn 11 = .ok (.iconst 2, 1) := by decide +kernel
theorem dX1_isPlannedOn_12 : decode cX1_isPlannedOn 12 = .ok (.if_icmp .ne 19, 3) := by decide +kernel
theorem dX1_isPlannedOn_15 : decode cX1_isPlannedOn 15 = .ok (.aload_n 0, 1) := by decide +kernel
theorem dX1_isPlannedOn_16 : decode cX1_isPlannedOn 16 = .ok (.getfield 22, 3) := by decide +kernel
theorem dX1_isPlannedOn_19 : decode cX1_isPlannedOn 19 = .ok (.sipush 1440, 3) := by decide +kernel
theorem dX1_isPlannedOn_22 : decode cX1_isPlannedOn 22 = .ok (.idiv, 1) := by decide +kernel
theorem dX1_isPlannedOn_23 : decode cX1_isPlannedOn 23 = .ok (.iload_n 1, 1) := by decide +kernel
theorem dX1_isPlannedOn_24 : decode cX1_isPlannedOn 24 = .ok (.if_icmp .ne 7, 3) := by decide +kernel
theorem dX1_isPlannedOn_27 : decode cX1_isPlannedOn 27 = .ok (.iconst 1, 1) := by decide +kernel
theorem dX1_isPlannedOn_28 : decode cX1_isPlannedOn 28 = .ok (.goto 4, 3) := by decide +kernel
theorem dX1_isPlannedOn_31 : decode cX1_isPlannedOn 31 = .ok (.iconst 0, 1) := by decide +kernel
theorem dX1_isPlannedOn_32 : decode cX1_isPlannedOn 32 = .ok (.ireturn, 1) := by decide +kernel
theorem dX1_occupiesIn_0 : decode cX1_occupiesIn 0 = .ok (.iconst 0, 1) := by decide +kernel
theorem dX1_occupiesIn_1 : decode cX1_occupiesIn 1 = .ok (.istore_n 3, 1) := by decide +kernel
theorem dX1_occupiesIn_2 : decode cX1_occupiesIn 2 = .ok (.iload_n 3, 1) := by decide +kernel
theorem dX1_occupiesIn_3 : decode cX1_occupiesIn 3 = .ok (.aload_n 0, 1) := by decide +kernel
theorem dX1_occupiesIn_4 : decode cX1_occupiesIn 4 = .ok (.getfield 12, 3) := by decide +kernel
theorem dX1_occupiesIn_7 : decode cX1_occupiesIn 7 = .ok (.getfield 36, 3) := by decide +kernel
theorem dX1_occupiesIn_10 : decode cX1_occupiesIn 10 = .ok (.if_icmp .ge 49, 3) := by decide +kernel
theorem dX1_occupiesIn_13 : decode cX1_occupiesIn 13 = .ok (.aload_n 0, 1) := by decide +kernel
theorem dX1_occupiesIn_14 : decode cX1_occupiesIn 14 = .ok (.getfield 22, 3) := by decide +kernel
theorem dX1_occupiesIn_17 : decode cX1_occupiesIn 17 = .ok (.iconst 2, 1) := by decide +kernel
theorem dX1_occupiesIn_18 : decode cX1_occupiesIn 18 = .ok (.iload_n 3, 1) := by decide +kernel
theorem dX1_occupiesIn_19 : decode cX1_occupiesIn 19 = .ok (.imul, 1) := by decide +kernel
theorem dX1_occupiesIn_20 : decode cX1_occupiesIn 20 = .ok (.iadd, 1) := by decide +kernel
theorem dX1_occupiesIn_21 : decode cX1_occupiesIn 21 = .ok (.istore 4, 2) := by decide +kernel
theorem dX1_occupiesIn_23 : decode cX1_occupiesIn 23 = .ok (.aload_n 0, 1) := by decide +kernel
theorem dX1_occupiesIn_24 : decode cX1_occupiesIn 24 = .ok (.getfield 12, 3) := by decide +kernel
theorem dX1_occupiesIn_27 : decode cX1_occupiesIn 27 = .ok (.iload_n 3, 1) := by decide +kernel
theorem dX1_occupiesIn_28 : decode cX1_occupiesIn 28 = .ok (.invokevirtual 39, 3) := by decide +kernel
theorem dX1_occupiesIn_31 : decode cX1_occupiesIn 31 = .ok (.iload_n 1, 1) := by decide +kernel
theorem dX1_occupiesIn_32 : decode cX1_occupiesIn 32 = .ok (.if_icmp .ne 21, 3) := by decide +kernel
theorem dX1_occupiesIn_35 : decode cX1_occupiesIn 35 = .ok (.iload_n 2, 1) := by decide +kernel
theorem dX1_occupiesIn_36 : decode cX1_occupiesIn 36 = .ok (.iload 4, 2) := by decide +kernel
theorem dX1_occupiesIn_38 : decode cX1_occupiesIn 38 = .ok (.iconst 1, 1) := by decide +kernel
theorem dX1_occupiesIn_39 : decode cX1_occupiesIn 39 = .ok (.isub, 1) := by decide +kernel
theorem dX1_occupiesIn_40 : decode cX1_occupiesIn 40 = .ok (.if_icmp .lt 13, 3) := by decide +kernel
theorem dX1_occupiesIn_43 : decode cX1_occupiesIn 43 = .ok (.iload_n 2, 1) := by decide +kernel
theorem dX1_occupiesIn_44 : decode cX1_occupiesIn 44 = .ok (.iload 4, 2) := by decide +kernel
theorem dX1_occupiesIn_46 : decode cX1_occupiesIn 46 = .ok (.iconst 1, 1) := by decide +kernel
theorem dX1_occupiesIn_47 : decode cX1_occupiesIn 47 = .ok (.iadd, 1) := by decide +kernel
theorem dX1_occupiesIn_48 : decode cX1_occupiesIn 48 = .ok (.if_icmp .gt 5, 3) := by decide +kernel
theorem dX1_occupiesIn_51 : decode cX1_occupiesIn 51 = .ok (.iconst 1, 1) := by decide +kernel
theorem dX1_occupiesIn_52 : decode cX1_occupiesIn 52 = .ok (.ireturn, 1) := by decide +kernel
theorem dX1_occupiesIn_53 : decode cX1_occupiesIn 53 = .ok (.iinc 3 1, 3) := by decide +kernel
theorem dX1_occupiesIn_56 : decode cX1_occupiesIn 56 = .ok (.goto (-54), 3) := by decide +kernel
theorem dX1_occupiesIn_59 : decode cX1_occupiesIn 59 = .ok (.iconst 0, 1) := by decide +kernel
theorem dX1_occupiesIn_60 : decode cX1_occupiesIn 60 = .ok (.ireturn, 1) := by decide +kernel
theorem dX1_isCloseInTime_0 : decode cX1_isCloseInTime 0 = .ok (.aload_n 0, 1) := by decide +kernel
theorem dX1_isCloseInTime_1 : decode cX1_isCloseInTime 1 = .ok (.getfield 22, 3) := by decide +kernel
theorem dX1_isCloseInTime_4 : decode cX1_isCloseInTime 4 = .ok (.aload_n 1, 1) := by decide +kernel
theorem dX1_isCloseInTime_5 : decode cX1_isCloseInTime 5 = .ok (.iload_n 2, 1) := by decide +kernel
theorem dX1_isCloseInTime_6 : decode cX1_isCloseInTime 6 = .ok (.invokevirtual 43, 3) := by decide +kernel
theorem dX1_isCloseInTime_9 : decode cX1_isCloseInTime 9 = .ok (.iconst 2, 1) := by decide +kernel
theorem dX1_isCloseInTime_10 : decode cX1_isCloseInTime 10 = .ok (.iadd, 1) := by decide +kernel
theorem dX1_isCloseInTime_11 : decode cX1_isCloseInTime 11 = .ok (.if_icmp .gt 24, 3) := by decide +kernel
theorem dX1_isCloseInTime_14 : decode cX1_isCloseInTime 14 = .ok (.aload_n 0, 1) := by decide +kernel
theorem dX1_isCloseInTime_15 : decode cX1_isCloseInTime 15 = .ok (.getfield 12, 3) := by decide +kernel
theorem dX1_isCloseInTime_18 : decode cX1_isCloseInTime 18 = .ok (.aload_n 0, 1) := by decide +kernel
theorem dX1_isCloseInTime_19 : decode cX1_isCloseInTime 19 = .ok (.getfield 22, 3) := by decide +kernel
theorem dX1_isCloseInTime_22 : decode cX1_isCloseInTime 22 = .ok (.invokevirtual 43, 3) := by decide +kernel
theorem dX1_isCloseInTime_25 : decode cX1_isCloseInTime 25 = .ok (.iload_n 2, 1) := by decide +kernel
theorem dX1_isCloseInTime_26 : decode cX1_isCloseInTime 26 = .ok (.iconst 2, 1) := by decide +kernel
theorem dX1_isCloseInTime_27 : decode cX1_isCloseInTime 27 = .ok (.isub, 1) := by decide +kernel
theorem dX1_isCloseInTime_28 : decode cX1_isCloseInTime 28 = .ok (.if_icmp .lt 7, 3) := by decide +kernel
theorem dX1_isCloseInTime_31 : decode cX1_isCloseInTime 31 = .ok (.iconst 1, 1) := by decide +kernel
theorem dX1_isCloseInTime_32 : decode cX1_isCloseInTime 32 = .ok (.goto 4, 3) := by decide +kernel
theorem dX1_isCloseInTime_35 : decode cX1_isCloseInTime 35 = .ok (.iconst 0, 1) := by decide +kernel
theorem dX1_isCloseInTime_36 : decode cX1_isCloseInTime 36 = .ok (.ireturn, 1) := by decide +kernel
theorem dX1_meets_0 : decode cX1_meets 0 = .ok (.iconst 0, 1) := by decide +kernel
theorem dX1_meets_1 : decode cX1_meets 1 = .ok (.istore_n 3, 1) := by decide +kernel
theorem dX1_meets_2 : decode cX1_meets 2 = .ok (.iload_n 3, 1) := by decide +kernel
theorem dX1_meets_3 : decode cX1_meets 3 = .ok (.aload_n 0, 1) := by decide +kernel
theorem dX1_meets_4 : decode cX1_meets 4 = .ok (.getfield 12, 3) := by decide +kernel
theorem dX1_meets_7 : decode cX1_meets 7 = .ok (.getfield 36, 3) := by decide +kernel
theorem dX1_meets_10 : decode cX1_meets 10 = .ok (.if_icmp .ge 76, 3) := by decide +kernel
theorem dX1_meets_13 : decode cX1_meets 13 = .ok (.iconst 0, 1) := by decide +kernel
theorem dX1_meets_14 : decode cX1_meets 14 = .ok (.istore 4, 2) := by decide +kernel
theorem dX1_meets_16 : decode cX1_meets 16 = .ok (.iload 4, 2) := by decide +kernel
theorem dX1_meets_18 : decode cX1_meets 18 = .ok (.aload_n 1, 1) := by decide +kernel
theorem dX1_meets_19 : decode cX1_meets 19 = .ok (.getfield 36, 3) := by decide +kernel
theorem dX1_meets_22 : decode cX1_meets 22 = .ok (.if_icmp .ge 58, 3) := by decide +kernel
theorem dX1_meets_25 : decode cX1_meets 25 = .ok (.aload_n 0, 1) := by decide +kernel
theorem dX1_meets_26 : decode cX1_meets 26 = .ok (.getfield 22, 3) := by decide +kernel
theorem dX1_meets_29 : decode cX1_meets 29 = .ok (.iconst 2, 1) := by decide +kernel
theorem dX1_meets_30 : decode cX1_meets 30 = .ok (.iload_n 3, 1) := by decide +kernel
theorem dX1_meets_31 : decode cX1_meets 31 = .ok (.imul, 1) := by decide +kernel
theorem dX1_meets_32 : decode cX1_meets 32 = .ok (.iadd, 1) := by decide +kernel
theorem dX1_meets_33 : decode cX1_meets 33 = .ok (.iload_n 2, 1) := by decide +kernel
theorem dX1_meets_34 : decode cX1_meets 34 = .ok (.isub, 1) := by decide +kernel
theorem dX1_meets_35 : decode cX1_meets 35 = .ok (.iconst 2, 1) := by decide +kernel
theorem dX1_meets_36 : decode cX1_meets 36 = .ok (.iload 4, 2) := by decide +kernel
theorem dX1_meets_38 : decode cX1_meets 38 = .ok (.imul, 1) := by decide +kernel
theorem dX1_meets_39 : decode cX1_meets 39 = .ok (.isub, 1) := by decide +kernel
theorem dX1_meets_40 : decode cX1_meets 40 = .ok (.istore 5, 2) := by decide +kernel
theorem dX1_meets_42 : decode cX1_meets 42 = .ok (.iload 5, 2) := by decide +kernel
theorem dX1_meets_44 : decode cX1_meets 44 = .ok (.bipush (-2), 2) := by decide +kernel
theorem dX1_meets_46 : decode cX1_meets 46 = .ok (.if_icmp .lt 28, 3) := by decide +kernel
theorem dX1_meets_49 : decode cX1_meets 49 = .ok (.iload 5, 2) := by decide +kernel
theorem dX1_meets_51 : decode cX1_meets 51 = .ok (.iconst 2, 1) := by decide +kernel
theorem dX1_meets_52 : decode cX1_meets 52 = .ok (.if_icmp .gt 22, 3) := by decide +kernel
theorem dX1_meets_55 : decode cX1_meets 55 = .ok (.aload_n 0, 1) := by decide +kernel
theorem dX1_meets_56 : decode cX1_meets 56 = .ok (.getfield 12, 3) := by decide +kernel
theorem dX1_meets_59 : decode cX1_meets 59 = .ok (.iload_n 3, 1) := by decide +kernel
theorem dX1_meets_60 : decode cX1_meets 60 = .ok (.invokevirtual 39, 3) := by decide +kernel
theorem dX1_meets_63 : decode cX1_meets 63 = .ok (.aload_n 1, 1) := by decide +kernel
theorem dX1_meets_64 : decode cX1_meets 64 = .ok (.iload 4, 2) := by decide +kernel
theorem dX1_meets_66 : decode cX1_meets 66 = .ok (.invokevirtual 39, 3) := by decide +kernel
theorem dX1_meets_69 : decode cX1_meets 69 = .ok (.if_icmp .ne 5, 3) := by decide +kernel
theorem dX1_meets_72 : decode cX1_meets 72 = .ok (.iconst 1, 1) := by decide +kernel
theorem dX1_meets_73 : decode cX1_meets 73 = .ok (.ireturn, 1) := by decide +kernel
theorem dX1_meets_74 : decode cX1_meets 74 = .ok (.iinc 4 1, 3) := by decide +kernel
theorem dX1_meets_77 : decode cX1_meets 77 = .ok (.goto (-61), 3) := by decide +kernel
theorem dX1_meets_80 : decode cX1_meets 80 = .ok (.iinc 3 1, 3) := by decide +kernel
theorem dX1_meets_83 : decode cX1_meets 83 = .ok (.goto (-81), 3) := by decide +kernel
theorem dX1_meets_86 : decode cX1_meets 86 = .ok (.iconst 0, 1) := by decide +kernel
theorem dX1_meets_87 : decode cX1_meets 87 = .ok (.ireturn, 1) := by decide +kernel
theorem dX2_init_0 : decode cX2_init 0 = .ok (.aload_n 0, 1) := by decide +kernel
theorem dX2_init_1 : decode cX2_init 1 = .ok (.invokespecial 3, 3) := by decide +kernel
theorem dX2_init_4 : decode cX2_init 4 = .ok (.aload_n 0, 1) := by decide +kernel
theorem dX2_init_5 : decode cX2_init 5 = .ok (.bipush 25, 2) := by decide +kernel
theorem dX2_init_7 : decode cX2_init 7 = .ok (.newarray .int, 2) := by decide +kernel
theorem dX2_init_9 : decode cX2_init 9 = .ok (.putfield 9, 3) := by decide +kernel
theorem dX2_init_12 : decode cX2_init 12 = .ok (.aload_n 0, 1) := by decide +kernel
theorem dX2_init_13 : decode cX2_init 13 = .ok (.bipush 25, 2) := by decide +kernel
theorem dX2_init_15 : decode cX2_init 15 = .ok (.newarray .boolean, 2) := by decide +kernel
theorem dX2_init_17 : decode cX2_init 17 = .ok (.putfield 15, 3) := by decide +kernel
theorem dX2_init_20 : decode cX2_init 20 = .ok (.aload_n 0, 1) := by decide +kernel
theorem dX2_init_21 : decode cX2_init 21 = .ok (.bipush 25, 2) := by decide +kernel
theorem dX2_init_23 : decode cX2_init 23 = .ok (.newarray .int, 2) := by decide +kernel
theorem dX2_init_25 : decode cX2_init 25 = .ok (.putfield 19, 3) := by decide +kernel
theorem dX2_init_28 : decode cX2_init 28 = .ok (.aload_n 0, 1) := by decide +kernel
theorem dX2_init_29 : decode cX2_init 29 = .ok (.iconst 5, 1) := by decide +kernel
theorem dX2_init_30 : decode cX2_init 30 = .ok (.newarray .int, 2) := by decide +kernel
theorem dX2_init_32 : decode cX2_init 32 = .ok (.putfield 22, 3) := by decide +kernel
theorem dX2_init_35 : decode cX2_init 35 = .ok (.aload_n 0, 1) := by decide +kernel
theorem dX2_init_36 : decode cX2_init 36 = .ok (.bipush 6, 2) := by decide +kernel
theorem dX2_init_38 : decode cX2_init 38 = .ok (.anewarray 25, 3) := by decide +kernel
theorem dX2_init_41 : decode cX2_init 41 = .ok (.putfield 27, 3) := by decide +kernel
theorem dX2_init_44 : decode cX2_init 44 = .ok (.aload_n 0, 1) := by decide +kernel
theorem dX2_init_45 : decode cX2_init 45 = .ok (.getfield 19, 3) := by decide +kernel
theorem dX2_init_48 : decode cX2_init 48 = .ok (.iconst (-1), 1) := by decide +kernel
theorem dX2_init_49 : decode cX2_init 49 = .ok (.invokestatic 31, 3) := by decide +kernel
theorem dX2_init_52 : decode cX2_init 52 = .ok (.iconst 0, 1) := by decide +kernel
theorem dX2_init_53 : decode cX2_init 53 = .ok (.istore_n 1, 1) := by decide +kernel
theorem dX2_init_54 : decode cX2_init 54 = .ok (.iload_n 1, 1) := by decide +kernel
theorem dX2_init_55 : decode cX2_init 55 = .ok (.bipush 6, 2) := by decide +kernel
theorem dX2_init_57 : decode cX2_init 57 = .ok (.if_icmp .ge 22, 3) := by decide +kernel
theorem dX2_init_60 : decode cX2_init 60 = .ok (.aload_n 0, 1) := by decide +kernel
theorem dX2_init_61 : decode cX2_init 61 = .ok (.getfield 27, 3) := by decide +kernel
theorem dX2_init_64 : decode cX2_init 64 = .ok (.iload_n 1, 1) := by decide +kernel
theorem dX2_init_65 : decode cX2_init 65 = .ok (.new 25, 3) := by decide +kernel
theorem dX2_init_68 : decode cX2_init 68 = .ok (.dup, 1) := by decide +kernel
theorem dX2_init_69 : decode cX2_init 69 = .ok (.invokespecial 37, 3) := by decide +kernel
theorem dX2_init_72 : decode cX2_init 72 = .ok (.aastore, 1) := by decide +kernel
theorem dX2_init_73 : decode cX2_init 73 = .ok (.iinc 1 1, 3) := by decide +kernel
theorem dX2_init_76 : decode cX2_init 76 = .ok (.goto (-22), 3) := by decide +kernel
theorem dX2_init_79 : decode cX2_init 79 = .ok (.return_, 1) := by decide +kernel
theorem dX2_addPad_0 : decode cX2_addPad 0 = .ok (.aload_n 0, 1) := by decide +kernel
theorem dX2_addPad_1 : decode cX2_addPad 1 = .ok (.getfield 22, 3) := by decide +kernel
theorem dX2_addPad_4 : decode cX2_addPad 4 = .ok (.aload_n 0, 1) := by decide +kernel
theorem dX2_addPad_5 : decode cX2_addPad 5 = .ok (.getfield 38, 3) := by decide +kernel
theorem dX2_addPad_8 : decode cX2_addPad 8 = .ok (.iload_n 1, 1) := by decide +kernel
theorem dX2_addPad_9 : decode cX2_addPad 9 = .ok (.iastore, 1) := by decide +kernel
theorem dX2_addPad_10 : decode cX2_addPad 10 = .ok (.aload_n 0, 1) := by decide +kernel
theorem dX2_addPad_11 : decode cX2_addPad 11 = .ok (.getfield 19, 3) := by decide +kernel
theorem dX2_addPad_14 : decode cX2_addPad 14 = .ok (.iload_n 1, 1) := by decide +kernel
theorem dX2_addPad_15 : decode cX2_addPad 15 = .ok (.aload_n 0, 1) := by decide +kernel
theorem dX2_addPad_16 : decode cX2_addPad 16 = .ok (.getfield 38, 3) := by decide +kernel
theorem dX2_addPad_19 : decode cX2_addPad 19 = .ok (.iastore, 1) := by decide +kernel
theorem dX2_addPad_20 : decode cX2_addPad 20 = .ok (.aload_n 0, 1) := by decide +kernel
theorem dX2_addPad_21 : decode cX2_addPad 21 = .ok (.dup, 1) := by decide +kernel
theorem dX2_addPad_22 : decode cX2_addPad 22 = .ok (.getfield 38, 3) := by decide +kernel
theorem dX2_addPad_25 : decode cX2_addPad 25 = .ok (.dup_x1, 1) := by decide +kernel
theorem dX2_addPad_26 : decode cX2_addPad 26 = .ok (.iconst 1, 1) := by decide +kernel
theorem dX2_addPad_27 : decode cX2_addPad 27 = .ok (.iadd, 1) := by decide +kernel
theorem dX2_addPad_28 : decode cX2_addPad 28 = .ok (.putfield 38, 3) := by decide +kernel
theorem dX2_addPad_31 : decode cX2_addPad 31 = .ok (.ireturn, 1) := by decide +kernel
theorem dX2_addZone_0 : decode cX2_addZone 0 = .ok (.aload_n 0, 1) := by decide +kernel
theorem dX2_addZone_1 : decode cX2_addZone 1 = .ok (.getfield 27, 3) := by decide +kernel
theorem dX2_addZone_4 : decode cX2_addZone 4 = .ok (.aload_n 0, 1) := by decide +kernel
theorem dX2_addZone_5 : decode cX2_addZone 5 = .ok (.getfield 42, 3) := by decide +kernel
theorem dX2_addZone_8 : decode cX2_addZone 8 = .ok (.aaload, 1) := by decide +kernel
theorem dX2_addZone_9 : decode cX2_addZone 9 = .ok (.astore 5, 2) := by decide +kernel
theorem dX2_addZone_11 : decode cX2_addZone 11 = .ok (.aload 5, 2) := by decide +kernel
theorem dX2_addZone_13 : decode cX2_addZone 13 = .ok (.iload_n 1, 1) := by decide +kernel
theorem dX2_addZone_14 : decode cX2_addZone 14 = .ok (.putfield 45, 3) := by decide +kernel
theorem dX2_addZone_17 : decode cX2_addZone 17 = .ok (.aload 5, 2) := by decide +kernel
theorem dX2_addZone_19 : decode cX2_addZone 19 = .ok (.iload_n 2, 1) := by decide +kernel
theorem dX2_addZone_20 : decode cX2_addZone 20 = .ok (.putfield 48, 3) := by decide +kernel
theorem dX2_addZone_23 : decode cX2_addZone 23 = .ok (.aload 5, 2) := by decide +kernel
theorem dX2_addZone_25 : decode cX2_addZone 25 = .ok (.iload_n 3, 1) := by decide +kernel
theorem dX2_addZone_26 : decode cX2_addZone 26 = .ok (.putfield 51, 3) := by decide +kernel
theorem dX2_addZone_29 : decode cX2_addZone 29 = .ok (.aload 5, 2) := by decide +kernel
theorem dX2_addZone_31 : decode cX2_addZone 31 = .ok (.iload 4, 2) := by decide +kernel
theorem dX2_addZone_33 : decode cX2_addZone 33 = .ok (.putfield 54, 3) := by decide +kernel
theorem dX2_addZone_36 : decode cX2_addZone 36 = .ok (.aload_n 0, 1) := by decide +kernel
theorem dX2_addZone_37 : decode cX2_addZone 37 = .ok (.dup, 1) := by decide +kernel
theorem dX2_addZone_38 : decode cX2_addZone 38 = .ok (.getfield 42, 3) := by decide +kernel
theorem dX2_addZone_41 : decode cX2_addZone 41 = .ok (.dup_x1, 1) := by decide +kernel
theorem dX2_addZone_42 : decode cX2_addZone 42 = .ok (.iconst 1, 1) := by decide +kernel
theorem dX2_addZone_43 : decode cX2_addZone 43 = .ok (.iadd, 1) := by decide +kernel
theorem dX2_addZone_44 : decode cX2_addZone 44 = .ok (.putfield 42, 3) := by decide +kernel
theorem dX2_addZone_47 : decode cX2_addZone 47 = .ok (.ireturn, 1) := by decide +kernel
theorem dX2_isShut_0 : decode cX2_isShut 0 = .ok (.iconst 0, 1) := by decide +kernel
theorem dX2_isShut_1 : decode cX2_isShut 1 = .ok (.istore 4, 2) := by decide +kernel
theorem dX2_isShut_3 : decode cX2_isShut 3 = .ok (.iload 4, 2) := by decide +kernel
theorem dX2_isShut_5 : decode cX2_isShut 5 = .ok (.aload_n 0, 1) := by decide +kernel
theorem dX2_isShut_6 : decode cX2_isShut 6 = .ok (.getfield 42, 3) := by decide +kernel
theorem dX2_isShut_9 : decode cX2_isShut 9 = .ok (.if_icmp .ge 27, 3) := by decide +kernel
theorem dX2_isShut_12 : decode cX2_isShut 12 = .ok (.aload_n 0, 1) := by decide +kernel
theorem dX2_isShut_13 : decode cX2_isShut 13 = .ok (.getfield 27, 3) := by decide +kernel
theorem dX2_isShut_16 : decode cX2_isShut 16 = .ok (.iload 4, 2) := by decide +kernel
theorem dX2_isShut_18 : decode cX2_isShut 18 = .ok (.aaload, 1) := by decide +kernel
theorem dX2_isShut_19 : decode cX2_isShut 19 = .ok (.iload_n 1, 1) := by decide +kernel
theorem dX2_isShut_20 : decode cX2_isShut 20 = .ok (.iload_n 2, 1) := by decide +kernel
theorem dX2_isShut_21 : decode cX2_isShut 21 = .ok (.iload_n 3, 1) := by decide +kernel
theorem dX2_isShut_22 : decode cX2_isShut 22 = .ok (.invokevirtual 57, 3) := by decide +kernel
theorem dX2_isShut_25 : decode cX2_isShut 25 = .ok (.ifCond .eq 5, 3) := by decide +kernel
theorem dX2_isShut_28 : decode cX2_isShut 28 = .ok (.iconst 1, 1) := by decide +kernel
theorem dX2_isShut_29 : decode cX2_isShut 29 = .ok (.ireturn, 1) := by decide +kernel
theorem dX2_isShut_30 : decode cX2_isShut 30 = .ok (.iinc 4 1, 3) := by decide +kernel
theorem dX2_isShut_33 : decode cX2_isShut 33 = .ok (.goto (-30), 3) := by decide +kernel
theorem dX2_isShut_36 : decode cX2_isShut 36 = .ok (.iconst 0, 1) := by decide +kernel
theorem dX2_isShut_37 : decode cX2_isShut 37 = .ok (.ireturn, 1) := by decide +kernel
theorem dX2_hasPad_0 : decode cX2_hasPad 0 = .ok (.iload_n 1, 1) := by decide +kernel
theorem dX2_hasPad_1 : decode cX2_hasPad 1 = .ok (.invokestatic 61, 3) := by decide +kernel
theorem dX2_hasPad_4 : decode cX2_hasPad 4 = .ok (.ifCond .eq 17, 3) := by decide +kernel
theorem dX2_hasPad_7 : decode cX2_hasPad 7 = .ok (.aload_n 0, 1) := by decide +kernel
theorem dX2_hasPad_8 : decode cX2_hasPad 8 = .ok (.getfield 19, 3) := by decide +kernel
theorem dX2_hasPad_11 : decode cX2_hasPad 11 = .ok (.iload_n 1, 1) := by decide +kernel
theorem dX2_hasPad_12 : decode cX2_hasPad 12 = .ok (.iaload, 1) := by decide +kernel
theorem dX2_hasPad_13 : decode cX2_hasPad 13 = .ok (.iconst (-1), 1) := by decide +kernel
theorem dX2_hasPad_14 : decode cX2_hasPad 14 = .ok (.if_icmp .eq 7, 3) := by decide +kernel
theorem dX2_hasPad_17 : decode cX2_hasPad 17 = .ok (.iconst 1, 1) := by decide +kernel
theorem dX2_hasPad_18 : decode cX2_hasPad 18 = .ok (.goto 4, 3) := by decide +kernel
theorem dX2_hasPad_21 : decode cX2_hasPad 21 = .ok (.iconst 0, 1) := by decide +kernel
theorem dX2_hasPad_22 : decode cX2_hasPad 22 = .ok (.ireturn, 1) := by decide +kernel
theorem dX2_isWayFromPadToPad_0 : decode cX2_isWayFromPadToPad 0 = .ok (.aload_n 1, 1) := by decide +kernel
theorem dX2_isWayFromPadToPad_1 : decode cX2_isWayFromPadToPad 1 = .ok (.getfield 65, 3) := by decide +kernel
theorem dX2_isWayFromPadToPad_4 : decode cX2_isWayFromPadToPad 4 = .ok (.iconst 2, 1) := by decide +kernel
theorem dX2_isWayFromPadToPad_5 : decode cX2_isWayFromPadToPad 5 = .ok (.if_icmp .lt 25, 3) := by decide +kernel
theorem dX2_isWayFromPadToPad_8 : decode cX2_isWayFromPadToPad 8 = .ok (.aload_n 0, 1) := by decide +kernel
theorem dX2_isWayFromPadToPad_9 : decode cX2_isWayFromPadToPad 9 = .ok (.aload_n 1, 1) := by decide +kernel
theorem dX2_isWayFromPadToPad_10 : decode cX2_isWayFromPadToPad 10 = .ok (.invokevirtual 70, 3) := by decide +kernel
theorem dX2_isWayFromPadToPad_13 : decode cX2_isWayFromPadToPad 13 = .ok (.invokevirtual 74, 3) := by decide +kernel
theorem dX2_isWayFromPadToPad_16 : decode cX2_isWayFromPadToPad 16 = .ok (.ifCond .eq 14, 3) := by decide +kernel
theorem dX2_isWayFromPadToPad_19 : decode cX2_isWayFromPadToPad 19 = .ok (.aload_n 0, 1) := by decide +kernel
theorem dX2_isWayFromPadToPad_20 : decode cX2_isWayFromPadToPad 20 = .ok (.aload_n 1, 1) := by decide +kernel
theorem dX2_isWayFromPadToPad_21 : decode cX2_isWayFromPadToPad 21 = .ok (.invokevirtual 77, 3) := by decide +kernel
theorem dX2_isWayFromPadToPad_24 : decode cX2_isWayFromPadToPad 24 = .ok (.invokevirtual 74, 3) := by decide +kernel
theorem dX2_isWayFromPadToPad_27 : decode cX2_isWayFromPadToPad 27 = .ok (.ifCond .ne 5, 3) := by decide +kernel
theorem dX2_isWayFromPadToPad_30 : decode cX2_isWayFromPadToPad 30 = .ok (.iconst 0, 1) := by decide +kernel
theorem dX2_isWayFromPadToPad_31 : decode cX2_isWayFromPadToPad 31 = .ok (.ireturn, 1) := by decide +kernel
theorem dX2_isWayFromPadToPad_32 : decode cX2_isWayFromPadToPad 32 = .ok (.iconst 1, 1) := by decide +kernel
theorem dX2_isWayFromPadToPad_33 : decode cX2_isWayFromPadToPad 33 = .ok (.istore_n 2, 1) := by decide +kernel
theorem dX2_isWayFromPadToPad_34 : decode cX2_isWayFromPadToPad 34 = .ok (.iload_n 2, 1) := by decide +kernel
theorem dX2_isWayFromPadToPad_35 : decode cX2_isWayFromPadToPad 35 = .ok (.aload_n 1, 1) := by decide +kernel
theorem dX2_isWayFromPadToPad_36 : decode cX2_isWayFromPadToPad 36 = .ok (.getfield 65, 3) := by decide +kernel
theorem dX2_isWayFromPadToPad_39 : decode cX2_isWayFromPadToPad 39 = .ok (.if_icmp .ge 30, 3) := by decide +kernel
theorem dX2_isWayFromPadToPad_42 : decode cX2_isWayFromPadToPad 42 = .ok (.aload_n 1, 1) := by decide +kernel
theorem dX2_isWayFromPadToPad_43 : decode cX2_isWayFromPadToPad 43 = .ok (.iload_n 2, 1) := by decide +kernel
theorem dX2_isWayFromPadToPad_44 : decode cX2_isWayFromPadToPad 44 = .ok (.iconst 1, 1) := by decide +kernel
theorem dX2_isWayFromPadToPad_45 : decode cX2_isWayFromPadToPad 45 = .ok (.isub, 1) := by decide +kernel
theorem dX2_isWayFromPadToPad_46 : decode cX2_isWayFromPadToPad 46 = .ok (.invokevirtual 80, 3) := by decide +kernel
theorem dX2_isWayFromPadToPad_49 : decode cX2_isWayFromPadToPad 49 = .ok (.aload_n 1, 1) := by decide +kernel
theorem dX2_isWayFromPadToPad_50 : decode cX2_isWayFromPadToPad 50 = .ok (.iload_n 2, 1) := by decide +kernel
theorem dX2_isWayFromPadToPad_51 : decode cX2_isWayFromPadToPad 51 = .ok (.invokevirtual 80, 3) := by decide +kernel
theorem dX2_isWayFromPadToPad_54 : decode cX2_isWayFromPadToPad 54 = .ok (.invokestatic 84, 3) := by decide +kernel
theorem dX2_isWayFromPadToPad_57 : decode cX2_isWayFromPadToPad 57 = .ok (.iconst (-1), 1) := by decide +kernel
theorem dX2_isWayFromPadToPad_58 : decode cX2_isWayFromPadToPad 58 = .ok (.if_icmp .ne 5, 3) := by decide +kernel
theorem dX2_isWayFromPadToPad_61 : decode cX2_isWayFromPadToPad 61 = .ok (.iconst 0, 1) := by decide +kernel
theorem dX2_isWayFromPadToPad_62 : decode cX2_isWayFromPadToPad 62 = .ok (.ireturn, 1) := by decide +kernel
theorem dX2_isWayFromPadToPad_63 : decode cX2_isWayFromPadToPad 63 = .ok (.iinc 2 1, 3) := by decide +kernel
theorem dX2_isWayFromPadToPad_66 : decode cX2_isWayFromPadToPad 66 = .ok (.goto (-32), 3) := by decide +kernel
theorem dX2_isWayFromPadToPad_69 : decode cX2_isWayFromPadToPad 69 = .ok (.iconst 1, 1) := by decide +kernel
theorem dX2_isWayFromPadToPad_70 : decode cX2_isWayFromPadToPad 70 = .ok (.ireturn, 1) := by decide +kernel
theorem dX2_neighbour_0 : decode cX2_neighbour 0 = .ok (.iload_n 0, 1) := by decide +kernel
theorem dX2_neighbour_1 : decode cX2_neighbour 1 = .ok (.iconst 5, 1) := by decide +kernel
theorem dX2_neighbour_2 : decode cX2_neighbour 2 = .ok (.idiv, 1) := by decide +kernel
theorem dX2_neighbour_3 : decode cX2_neighbour 3 = .ok (.istore_n 2, 1) := by decide +kernel
theorem dX2_neighbour_4 : decode cX2_neighbour 4 = .ok (.iload_n 0, 1) := by decide +kernel
theorem dX2_neighbour_5 : decode cX2_neighbour 5 = .ok (.iconst 5, 1) := by decide +kernel
theorem dX2_neighbour_6 : decode cX2_neighbour 6 = .ok (.irem, 1) := by decide +kernel
theorem dX2_neighbour_7 : decode cX2_neighbour 7 = .ok (.istore_n 3, 1) := by decide +kernel
theorem dX2_neighbour_8 : decode cX2_neighbour 8 = .ok (.iload_n 1, 1) := by decide +kernel
theorem dX2_neighbour_9 : decode cX2_neighbour 9 = .ok (.tableswitch 81 0 3 #[31, 43, 56, 69], 31) := by decide +kernel
theorem dX2_neighbour_40 : decode cX2_neighbour 40 = .ok (.iload_n 2, 1) := by decide +kernel
theorem dX2_neighbour_41 : decode cX2_neighbour 41 = .ok (.ifCond .le 9, 3) := by decide +kernel
theorem dX2_neighbour_44 : decode cX2_neighbour 44 = .ok (.iload_n 0, 1) := by decide +kernel
theorem dX2_neighbour_45 : decode cX2_neighbour 45 = .ok (.iconst 5, 1) := by decide +kernel
theorem dX2_neighbour_46 : decode cX2_neighbour 46 = .ok (.isub, 1) := by decide +kernel
theorem dX2_neighbour_47 : decode cX2_neighbour 47 = .ok (.goto 4, 3) := by decide +kernel
theorem dX2_neighbour_50 : decode cX2_neighbour 50 = .ok (.iconst (-1), 1) := by decide +kernel
theorem dX2_neighbour_51 : decode cX2_neighbour 51 = .ok (.ireturn, 1) := by decide +kernel
theorem dX2_neighbour_52 : decode cX2_neighbour 52 = .ok (.iload_n 3, 1) := by decide +kernel
theorem dX2_neighbour_53 : decode cX2_neighbour 53 = .ok (.iconst 4, 1) := by decide +kernel
theorem dX2_neighbour_54 : decode cX2_neighbour 54 = .ok (.if_icmp .ge 9, 3) := by decide +kernel
theorem dX2_neighbour_57 : decode cX2_neighbour 57 = .ok (.iload_n 0, 1) := by decide +kernel
theorem dX2_neighbour_58 : decode cX2_neighbour 58 = .ok (.iconst 1, 1) := by decide +kernel
theorem dX2_neighbour_59 : decode cX2_neighbour 59 = .ok (.iadd, 1) := by decide +kernel
theorem dX2_neighbour_60 : decode cX2_neighbour 60 = .ok (.goto 4, 3) := by decide +kernel
theorem dX2_neighbour_63 : decode cX2_neighbour 63 = .ok (.iconst (-1), 1) := by decide +kernel
theorem dX2_neighbour_64 : decode cX2_neighbour 64 = .ok (.ireturn, 1) := by decide +kernel
theorem dX2_neighbour_65 : decode cX2_neighbour 65 = .ok (.iload_n 2, 1) := by decide +kernel
theorem dX2_neighbour_66 : decode cX2_neighbour 66 = .ok (.iconst 4, 1) := by decide +kernel
theorem dX2_neighbour_67 : decode cX2_neighbour 67 = .ok (.if_icmp .ge 9, 3) := by decide +kernel
theorem dX2_neighbour_70 : decode cX2_neighbour 70 = .ok (.iload_n 0, 1) := by decide +kernel
theorem dX2_neighbour_71 : decode cX2_neighbour 71 = .ok (.iconst 5, 1) := by decide +kernel
theorem dX2_neighbour_72 : decode cX2_neighbour 72 = .ok (.iadd, 1) := by decide +kernel
theorem dX2_neighbour_73 : decode cX2_neighbour 73 = .ok (.goto 4, 3) := by decide +kernel
theorem dX2_neighbour_76 : decode cX2_neighbour 76 = .ok (.iconst (-1), 1) := by decide +kernel
theorem dX2_neighbour_77 : decode cX2_neighbour 77 = .ok (.ireturn, 1) := by decide +kernel
theorem dX2_neighbour_78 : decode cX2_neighbour 78 = .ok (.iload_n 3, 1) := by decide +kernel
theorem dX2_neighbour_79 : decode cX2_neighbour 79 = .ok (.ifCond .le 9, 3) := by decide +kernel
theorem dX2_neighbour_82 : decode cX2_neighbour 82 = .ok (.iload_n 0, 1) := by decide +kernel
theorem dX2_neighbour_83 : decode cX2_neighbour 83 = .ok (.iconst 1, 1) := by decide +kernel
theorem dX2_neighbour_84 : decode cX2_neighbour 84 = .ok (.isub, 1) := by decide +kernel
theorem dX2_neighbour_85 : decode cX2_neighbour 85 = .ok (.goto 4, 3) := by decide +kernel
theorem dX2_neighbour_88 : decode cX2_neighbour 88 = .ok (.iconst (-1), 1) := by decide +kernel
theorem dX2_neighbour_89 : decode cX2_neighbour 89 = .ok (.ireturn, 1) := by decide +kernel
theorem dX2_neighbour_90 : decode cX2_neighbour 90 = .ok (.iconst (-1), 1) := by decide +kernel
theorem dX2_neighbour_91 : decode cX2_neighbour 91 = .ok (.ireturn, 1) := by decide +kernel
theorem dX2_directionTo_0 : decode cX2_directionTo 0 = .ok (.iload_n 0, 1) := by decide +kernel
theorem dX2_directionTo_1 : decode cX2_directionTo 1 = .ok (.invokestatic 61, 3) := by decide +kernel
theorem dX2_directionTo_4 : decode cX2_directionTo 4 = .ok (.ifCond .eq 10, 3) := by decide +kernel
theorem dX2_directionTo_7 : decode cX2_directionTo 7 = .ok (.iload_n 1, 1) := by decide +kernel
theorem dX2_directionTo_8 : decode cX2_directionTo 8 = .ok (.invokestatic 61, 3) := by decide +kernel
theorem dX2_directionTo_11 : decode cX2_directionTo 11 = .ok (.ifCond .ne 5, 3) := by decide +kernel
theorem dX2_directionTo_14 : decode cX2_directionTo 14 = .ok (.iconst (-1), 1) := by decide +kernel
theorem dX2_directionTo_15 : decode cX2_directionTo 15 = .ok (.ireturn, 1) := by decide +kernel
theorem dX2_directionTo_16 : decode cX2_directionTo 16 = .ok (.iconst 0, 1) := by decide +kernel
theorem dX2_directionTo_17 : decode cX2_directionTo 17 = .ok (.istore_n 2, 1) := by decide +kernel
theorem dX2_directionTo_18 : decode cX2_directionTo 18 = .ok (.iload_n 2, 1) := by decide +kernel
theorem dX2_directionTo_19 : decode cX2_directionTo 19 = .ok (.iconst 4, 1) := by decide +kernel
theorem dX2_directionTo_20 : decode cX2_directionTo 20 = .ok (.if_icmp .ge 20, 3) := by decide +kernel
theorem dX2_directionTo_23 : decode cX2_directionTo 23 = .ok (.iload_n 0, 1) := by decide +kernel
theorem dX2_directionTo_24 : decode cX2_directionTo 24 = .ok (.iload_n 2, 1) := by decide +kernel
theorem dX2_directionTo_25 : decode cX2_directionTo 25 = .ok (.invokestatic 88, 3) := by decide +kernel
theorem dX2_directionTo_28 : decode cX2_directionTo 28 = .ok (.iload_n 1, 1) := by decide +kernel
theorem dX2_directionTo_29 : decode cX2_directionTo 29 = .ok (.if_icmp .ne 5, 3) := by decide +kernel
theorem dX2_directionTo_32 : decode cX2_directionTo 32 = .ok (.iload_n 2, 1) := by decide +kernel
theorem dX2_directionTo_33 : decode cX2_directionTo 33 = .ok (.ireturn, 1) := by decide +kernel
theorem dX2_directionTo_34 : decode cX2_directionTo 34 = .ok (.iinc 2 1, 3) := by decide +kernel
theorem dX2_directionTo_37 : decode cX2_directionTo 37 = .ok (.goto (-19), 3) := by decide +kernel
theorem dX2_directionTo_40 : decode cX2_directionTo 40 = .ok (.iconst (-1), 1) := by decide +kernel
theorem dX2_directionTo_41 : decode cX2_directionTo 41 = .ok (.ireturn, 1) := by decide +kernel
theorem dX2_costOfMove_0 : decode cX2_costOfMove 0 = .ok (.iload_n 1, 1) := by decide +kernel
theorem dX2_costOfMove_1 : decode cX2_costOfMove 1 = .ok (.aload_n 0, 1) := by decide +kernel
theorem dX2_costOfMove_2 : decode cX2_costOfMove 2 = .ok (.getfield 91, 3) := by decide +kernel
theorem dX2_costOfMove_5 : decode cX2_costOfMove 5 = .ok (.if_icmp .ne 14, 3) := by decide +kernel
theorem dX2_costOfMove_8 : decode cX2_costOfMove 8 = .ok (.iconst 1, 1) := by decide +kernel
theorem dX2_costOfMove_9 : decode cX2_costOfMove 9 = .ok (.iconst 4, 1) := by decide +kernel
theorem dX2_costOfMove_10 : decode cX2_costOfMove 10 = .ok (.aload_n 0, 1) := by decide +kernel
theorem dX2_costOfMove_11 : decode cX2_costOfMove 11 = .ok (.getfield 94, 3) := by decide +kernel
theorem dX2_costOfMove_14 : decode cX2_costOfMove 14 = .ok (.isub, 1) := by decide +kernel
theorem dX2_costOfMove_15 : decode cX2_costOfMove 15 = .ok (.invokestatic 97, 3) := by decide +kernel
theorem dX2_costOfMove_18 : decode cX2_costOfMove 18 = .ok (.ireturn, 1) := by decide +kernel
theorem dX2_costOfMove_19 : decode cX2_costOfMove 19 = .ok (.iload_n 1, 1) := by decide +kernel
theorem dX2_costOfMove_20 : decode cX2_costOfMove 20 = .ok (.aload_n 0, 1) := by decide +kernel
theorem dX2_costOfMove_21 : decode cX2_costOfMove 21 = .ok (.getfield 91, 3) := by decide +kernel
theorem dX2_costOfMove_24 : decode cX2_costOfMove 24 = .ok (.iconst 2, 1) := by decide +kernel
theorem dX2_costOfMove_25 : decode cX2_costOfMove 25 = .ok (.iadd, 1) := by decide +kernel
theorem dX2_costOfMove_26 : decode cX2_costOfMove 26 = .ok (.iconst 4, 1) := by decide +kernel
theorem dX2_costOfMove_27 : decode cX2_costOfMove 27 = .ok (.irem, 1) := by decide +kernel
theorem dX2_costOfMove_28 : decode cX2_costOfMove 28 = .ok (.if_icmp .ne 10, 3) := by decide +kernel
theorem dX2_costOfMove_31 : decode cX2_costOfMove 31 = .ok (.iconst 4, 1) := by decide +kernel
theorem dX2_costOfMove_32 : decode cX2_costOfMove 32 = .ok (.aload_n 0, 1) := by decide +kernel
theorem dX2_costOfMove_33 : decode cX2_costOfMove 33 = .ok (.getfield 94, 3) := by decide +kernel
theorem dX2_costOfMove_36 : decode cX2_costOfMove 36 = .ok (.iadd, 1) := by decide +kernel
theorem dX2_costOfMove_37 : decode cX2_costOfMove 37 = .ok (.ireturn, 1) := by decide +kernel
theorem dX2_costOfMove_38 : decode cX2_costOfMove 38 = .ok (.iconst 4, 1) := by decide +kernel
theorem dX2_costOfMove_39 : decode cX2_costOfMove 39 = .ok (.ireturn, 1) := by decide +kernel
theorem dX2_costOfRoute_0 : decode cX2_costOfRoute 0 = .ok (.iconst 2, 1) := by decide +kernel
theorem dX2_costOfRoute_1 : decode cX2_costOfRoute 1 = .ok (.istore_n 2, 1) := by decide +kernel
theorem dX2_costOfRoute_2 : decode cX2_costOfRoute 2 = .ok (.iconst 1, 1) := by decide +kernel
theorem dX2_costOfRoute_3 : decode cX2_costOfRoute 3 = .ok (.istore_n 3, 1) := by decide +kernel
theorem dX2_costOfRoute_4 : decode cX2_costOfRoute 4 = .ok (.iload_n 3, 1) := by decide +kernel
theorem dX2_costOfRoute_5 : decode cX2_costOfRoute 5 = .ok (.aload_n 1, 1) := by decide +kernel
theorem dX2_costOfRoute_6 : decode cX2_costOfRoute 6 = .ok (.getfield 65, 3) := by decide +kernel
theorem dX2_costOfRoute_9 : decode cX2_costOfRoute 9 = .ok (.if_icmp .ge 31, 3) := by decide +kernel
theorem dX2_costOfRoute_12 : decode cX2_costOfRoute 12 = .ok (.iload_n 2, 1) := by decide +kernel
theorem dX2_costOfRoute_13 : decode cX2_costOfRoute 13 = .ok (.aload_n 0, 1) := by decide +kernel
theorem dX2_costOfRoute_14 : decode cX2_costOfRoute 14 = .ok (.aload_n 1, 1) := by decide +kernel
theorem dX2_costOfRoute_15 : decode cX2_costOfRoute 15 = .ok (.iload_n 3, 1) := by decide +kernel
theorem dX2_costOfRoute_16 : decode cX2_costOfRoute 16 = .ok (.iconst 1, 1) := by decide +kernel
theorem dX2_costOfRoute_17 : decode cX2_costOfRoute 17 = .ok (.isub, 1) := by decide +kernel
theorem dX2_costOfRoute_18 : decode cX2_costOfRoute 18 = .ok (.invokevirtual 80, 3) := by decide +kernel
theorem dX2_costOfRoute_21 : decode cX2_costOfRoute 21 = .ok (.aload_n 1, 1) := by decide +kernel
theorem dX2_costOfRoute_22 : decode cX2_costOfRoute 22 = .ok (.iload_n 3, 1) := by decide +kernel
theorem dX2_costOfRoute_23 : decode cX2_costOfRoute 23 = .ok (.invokevirtual 80, 3) := by decide +kernel
theorem dX2_costOfRoute_26 : decode cX2_costOfRoute 26 = .ok (.invokestatic 84, 3) := by decide +kernel
theorem dX2_costOfRoute_29 : decode cX2_costOfRoute 29 = .ok (.invokevirtual 102, 3) := by decide +kernel
theorem dX2_costOfRoute_32 : decode cX2_costOfRoute 32 = .ok (.iadd, 1) := by decide +kernel
theorem dX2_costOfRoute_33 : decode cX2_costOfRoute 33 = .ok (.istore_n 2, 1) := by decide +kernel
theorem dX2_costOfRoute_34 : decode cX2_costOfRoute 34 = .ok (.iinc 3 1, 3) := by decide +kernel
theorem dX2_costOfRoute_37 : decode cX2_costOfRoute 37 = .ok (.goto (-33), 3) := by decide +kernel
theorem dX2_costOfRoute_40 : decode cX2_costOfRoute 40 = .ok (.iload_n 2, 1) := by decide +kernel
theorem dX2_costOfRoute_41 : decode cX2_costOfRoute 41 = .ok (.ireturn, 1) := by decide +kernel
theorem dX3_init_0 : decode cX3_init 0 = .ok (.aload_n 0, 1) := by decide +kernel
theorem dX3_init_1 : decode cX3_init 1 = .ok (.invokespecial 3, 3) := by decide +kernel
theorem dX3_init_4 : decode cX3_init 4 = .ok (.aload_n 0, 1) := by decide +kernel
theorem dX3_init_5 : decode cX3_init 5 = .ok (.bipush 25, 2) := by decide +kernel
theorem dX3_init_7 : decode cX3_init 7 = .ok (.newarray .int, 2) := by decide +kernel
theorem dX3_init_9 : decode cX3_init 9 = .ok (.putfield 9, 3) := by decide +kernel
theorem dX3_init_12 : decode cX3_init 12 = .ok (.aload_n 0, 1) := by decide +kernel
theorem dX3_init_13 : decode cX3_init 13 = .ok (.aload_n 1, 1) := by decide +kernel
theorem dX3_init_14 : decode cX3_init 14 = .ok (.putfield 15, 3) := by decide +kernel
theorem dX3_init_17 : decode cX3_init 17 = .ok (.aload_n 0, 1) := by decide +kernel
theorem dX3_init_18 : decode cX3_init 18 = .ok (.aload_n 2, 1) := by decide +kernel
theorem dX3_init_19 : decode cX3_init 19 = .ok (.putfield 19, 3) := by decide +kernel
theorem dX3_init_22 : decode cX3_init 22 = .ok (.return_, 1) := by decide +kernel
theorem dX3_reasonAgainst_0 : decode cX3_reasonAgainst 0 = .ok (.aload_n 0, 1) := by decide +kernel
theorem dX3_reasonAgainst_1 : decode cX3_reasonAgainst 1 = .ok (.getfield 19, 3) := by decide +kernel
theorem dX3_reasonAgainst_4 : decode cX3_reasonAgainst 4 = .ok (.getfield 23, 3) := by decide +kernel
theorem dX3_reasonAgainst_7 : decode cX3_reasonAgainst 7 = .ok (.iload_n 1, 1) := by decide +kernel
theorem dX3_reasonAgainst_8 : decode cX3_reasonAgainst 8 = .ok (.aaload, 1) := by decide +kernel
theorem dX3_reasonAgainst_9 : decode cX3_reasonAgainst 9 = .ok (.astore 4, 2) := by decide +kernel
theorem dX3_reasonAgainst_11 : decode cX3_reasonAgainst 11 = .ok (.aload_n 0, 1) := by decide +kernel
theorem dX3_reasonAgainst_12 : decode cX3_reasonAgainst 12 = .ok (.aload_n 2, 1) := by decide +kernel
theorem dX3_reasonAgainst_13 : decode cX3_reasonAgainst 13 = .ok (.invokevirtual 29, 3) := by decide +kernel
theorem dX3_reasonAgainst_16 : decode cX3_reasonAgainst 16 = .ok (.ifCond .eq 5, 3) := by decide +kernel
theorem dX3_reasonAgainst_19 : decode cX3_reasonAgainst 19 = .ok (.iconst 1, 1) := by decide +kernel
theorem dX3_reasonAgainst_20 : decode cX3_reasonAgainst 20 = .ok (.ireturn, 1) := by decide +kernel
theorem dX3_reasonAgainst_21 : decode cX3_reasonAgainst 21 = .ok (.aload_n 0, 1) := by decide +kernel
theorem dX3_reasonAgainst_22 : decode cX3_reasonAgainst 22 = .ok (.aload 4, 2) := by decide +kernel
theorem dX3_reasonAgainst_24 : decode cX3_reasonAgainst 24 = .ok (.aload_n 2, 1) := by decide +kernel
theorem dX3_reasonAgainst_25 : decode cX3_reasonAgainst 25 = .ok (.iload_n 3, 1) := by decide +kernel
theorem dX3_reasonAgainst_26 : decode cX3_reasonAgainst 26 = .ok (.invokevirtual 33, 3) := by decide +kernel
theorem dX3_reasonAgainst_29 : decode cX3_reasonAgainst 29 = .ok (.ifCond .eq 5, 3) := by decide +kernel
theorem dX3_reasonAgainst_32 : decode cX3_reasonAgainst 32 = .ok (.iconst 2, 1) := by decide +kernel
theorem dX3_reasonAgainst_33 : decode cX3_reasonAgainst 33 = .ok (.ireturn, 1) := by decide +kernel
theorem dX3_reasonAgainst_34 : decode cX3_reasonAgainst 34 = .ok (.aload_n 0, 1) := by decide +kernel
theorem dX3_reasonAgainst_35 : decode cX3_reasonAgainst 35 = .ok (.iload_n 1, 1) := by decide +kernel
theorem dX3_reasonAgainst_36 : decode cX3_reasonAgainst 36 = .ok (.aload_n 2, 1) := by decide +kernel
theorem dX3_reasonAgainst_37 : decode cX3_reasonAgainst 37 = .ok (.iload_n 3, 1) := by decide +kernel
theorem dX3_reasonAgainst_38 : decode cX3_reasonAgainst 38 = .ok (.invokevirtual 37, 3) := by decide +kernel
theorem dX3_reasonAgainst_41 : decode cX3_reasonAgainst 41 = .ok (.ifCond .eq 5, 3) := by decide +kernel
theorem dX3_reasonAgainst_44 : decode cX3_reasonAgainst 44 = .ok (.iconst 3, 1) := by decide +kernel
theorem dX3_reasonAgainst_45 : decode cX3_reasonAgainst 45 = .ok (.ireturn, 1) := by decide +kernel
theorem dX3_reasonAgainst_46 : decode cX3_reasonAgainst 46 = .ok (.aload_n 0, 1) := by decide +kernel
theorem dX3_reasonAgainst_47 : decode cX3_reasonAgainst 47 = .ok (.iload_n 1, 1) := by decide +kernel
theorem dX3_reasonAgainst_48 : decode cX3_reasonAgainst 48 = .ok (.aload_n 2, 1) := by decide +kernel
theorem dX3_reasonAgainst_49 : decode cX3_reasonAgainst 49 = .ok (.iload_n 3, 1) := by decide +kernel
theorem dX3_reasonAgainst_50 : decode cX3_reasonAgainst 50 = .ok (.invokevirtual 41, 3) := by decide +kernel
theorem dX3_reasonAgainst_53 : decode cX3_reasonAgainst 53 = .ok (.ifCond .eq 5, 3) := by decide +kernel
theorem dX3_reasonAgainst_56 : decode cX3_reasonAgainst 56 = .ok (.iconst 4, 1) := by decide +kernel
theorem dX3_reasonAgainst_57 : decode cX3_reasonAgainst 57 = .ok (.ireturn, 1) := by decide +kernel
theorem dX3_reasonAgainst_58 : decode cX3_reasonAgainst 58 = .ok (.aload_n 0, 1) := by decide +kernel
theorem dX3_reasonAgainst_59 : decode cX3_reasonAgainst 59 = .ok (.getfield 15, 3) := by decide +kernel
theorem dX3_reasonAgainst_62 : decode cX3_reasonAgainst 62 = .ok (.aload_n 2, 1) := by decide +kernel
theorem dX3_reasonAgainst_63 : decode cX3_reasonAgainst 63 = .ok (.invokevirtual 44, 3) := by decide +kernel
theorem dX3_reasonAgainst_66 : decode cX3_reasonAgainst 66 = .ok (.aload 4, 2) := by decide +kernel
theorem dX3_reasonAgainst_68 : decode cX3_reasonAgainst 68 = .ok (.getfield 50, 3) := by decide +kernel
theorem dX3_reasonAgainst_71 : decode cX3_reasonAgainst 71 = .ok (.if_icmp .le 5, 3) := by decide +kernel
theorem dX3_reasonAgainst_74 : decode cX3_reasonAgainst 74 = .ok (.iconst 5, 1) := by decide +kernel
theorem dX3_reasonAgainst_75 : decode cX3_reasonAgainst 75 = .ok (.ireturn, 1) := by decide +kernel
theorem dX3_reasonAgainst_76 : decode cX3_reasonAgainst 76 = .ok (.aload_n 0, 1) := by decide +kernel
theorem dX3_reasonAgainst_77 : decode cX3_reasonAgainst 77 = .ok (.aload 4, 2) := by decide +kernel
theorem dX3_reasonAgainst_79 : decode cX3_reasonAgainst 79 = .ok (.aload_n 2, 1) := by decide +kernel
theorem dX3_reasonAgainst_80 : decode cX3_reasonAgainst 80 = .ok (.iload_n 3, 1) := by decide +kernel
theorem dX3_reasonAgainst_81 : decode cX3_reasonAgainst 81 = .ok (.invokevirtual 56, 3) := by decide +kernel
theorem dX3_reasonAgainst_84 : decode cX3_reasonAgainst 84 = .ok (.ifCond .eq 8, 3) := by decide +kernel
theorem dX3_reasonAgainst_87 : decode cX3_reasonAgainst 87 = .ok (.bipush 6, 2) := by decide +kernel
theorem dX3_reasonAgainst_89 : decode cX3_reasonAgainst 89 = .ok (.goto 4, 3) := by decide +kernel
theorem dX3_reasonAgainst_92 : decode cX3_reasonAgainst 92 = .ok (.iconst 0, 1) := by decide +kernel
theorem dX3_reasonAgainst_93 : decode cX3_reasonAgainst 93 = .ok (.ireturn, 1) := by decide +kernel
theorem dX3_meetsTower_0 : decode cX3_meetsTower 0 = .ok (.iconst 0, 1) := by decide +kernel
theorem dX3_meetsTower_1 : decode cX3_meetsTower 1 = .ok (.istore_n 2, 1) := by decide +kernel
theorem dX3_meetsTower_2 : decode cX3_meetsTower 2 = .ok (.iload_n 2, 1) := by decide +kernel
theorem dX3_meetsTower_3 : decode cX3_meetsTower 3 = .ok (.aload_n 1, 1) := by decide +kernel
theorem dX3_meetsTower_4 : decode cX3_meetsTower 4 = .ok (.getfield 59, 3) := by decide +kernel
theorem dX3_meetsTower_7 : decode cX3_meetsTower 7 = .ok (.if_icmp .ge 36, 3) := by decide +kernel
theorem dX3_meetsTower_10 : decode cX3_meetsTower 10 = .ok (.aload_n 1, 1) := by decide +kernel
theorem dX3_meetsTower_11 : decode cX3_meetsTower 11 = .ok (.iload_n 2, 1) := by decide +kernel
theorem dX3_meetsTower_12 : decode cX3_meetsTower 12 = .ok (.invokevirtual 64, 3) := by decide +kernel
theorem dX3_meetsTower_15 : decode cX3_meetsTower 15 = .ok (.istore_n 3, 1) := by decide +kernel
theorem dX3_meetsTower_16 : decode cX3_meetsTower 16 = .ok (.iload_n 3, 1) := by decide +kernel
theorem dX3_meetsTower_17 : decode cX3_meetsTower 17 = .ok (.invokestatic 68, 3) := by decide +kernel
theorem dX3_meetsTower_20 : decode cX3_meetsTower 20 = .ok (.ifCond .eq 17, 3) := by decide +kernel
theorem dX3_meetsTower_23 : decode cX3_meetsTower 23 = .ok (.aload_n 0, 1) := by decide +kernel
theorem dX3_meetsTower_24 : decode cX3_meetsTower 24 = .ok (.getfield 15, 3) := by decide +kernel
theorem dX3_meetsTower_27 : decode cX3_meetsTower 27 = .ok (.getfield 72, 3) := by decide +kernel
theorem dX3_meetsTower_30 : decode cX3_meetsTower 30 = .ok (.iload_n 3, 1) := by decide +kernel
theorem dX3_meetsTower_31 : decode cX3_meetsTower 31 = .ok (.baload, 1) := by decide +kernel
theorem dX3_meetsTower_32 : decode cX3_meetsTower 32 = .ok (.ifCond .eq 5, 3) := by decide +kernel
theorem dX3_meetsTower_35 : decode cX3_meetsTower 35 = .ok (.iconst 1, 1) := by decide +kernel
theorem dX3_meetsTower_36 : decode cX3_meetsTower 36 = .ok (.ireturn, 1) := by decide +kernel
theorem dX3_meetsTower_37 : decode cX3_meetsTower 37 = .ok (.iinc 2 1, 3) := by decide +kernel
theorem dX3_meetsTower_40 : decode cX3_meetsTower 40 = .ok (.goto (-38), 3) := by decide +kernel
theorem dX3_meetsTower_43 : decode cX3_meetsTower 43 = .ok (.iconst 0, 1) := by decide +kernel
theorem dX3_meetsTower_44 : decode cX3_meetsTower 44 = .ok (.ireturn, 1) := by decide +kernel
theorem dX3_meetsZone_0 : decode cX3_meetsZone 0 = .ok (.iconst 0, 1) := by decide +kernel
theorem dX3_meetsZone_1 : decode cX3_meetsZone 1 = .ok (.istore 4, 2) := by decide +kernel
theorem dX3_meetsZone_3 : decode cX3_meetsZone 3 = .ok (.iload 4, 2) := by decide +kernel
theorem dX3_meetsZone_5 : decode cX3_meetsZone 5 = .ok (.aload_n 2, 1) := by decide +kernel
theorem dX3_meetsZone_6 : decode cX3_meetsZone 6 = .ok (.getfield 59, 3) := by decide +kernel
theorem dX3_meetsZone_9 : decode cX3_meetsZone 9 = .ok (.if_icmp .ge 62, 3) := by decide +kernel
theorem dX3_meetsZone_12 : decode cX3_meetsZone 12 = .ok (.iload_n 3, 1) := by decide +kernel
theorem dX3_meetsZone_13 : decode cX3_meetsZone 13 = .ok (.iconst 2, 1) := by decide +kernel
theorem dX3_meetsZone_14 : decode cX3_meetsZone 14 = .ok (.iload 4, 2) := by decide +kernel
theorem dX3_meetsZone_16 : decode cX3_meetsZone 16 = .ok (.imul, 1) := by decide +kernel
theorem dX3_meetsZone_17 : decode cX3_meetsZone 17 = .ok (.iadd, 1) := by decide +kernel
theorem dX3_meetsZone_18 : decode cX3_meetsZone 18 = .ok (.istore 5, 2) := by decide +kernel
theorem dX3_meetsZone_20 : decode cX3_meetsZone 20 = .ok (.iload 5, 2) := by decide +kernel
theorem dX3_meetsZone_22 : decode cX3_meetsZone 22 = .ok (.iconst 1, 1) := by decide +kernel
theorem dX3_meetsZone_23 : decode cX3_meetsZone 23 = .ok (.isub, 1) := by decide +kernel
theorem dX3_meetsZone_24 : decode cX3_meetsZone 24 = .ok (.istore 6, 2) := by decide +kernel
theorem dX3_meetsZone_26 : decode cX3_meetsZone 26 = .ok (.iload 6, 2) := by decide +kernel
theorem dX3_meetsZone_28 : decode cX3_meetsZone 28 = .ok (.iload 5, 2) := by decide +kernel
theorem dX3_meetsZone_30 : decode cX3_meetsZone 30 = .ok (.iconst 1, 1) := by decide +kernel
theorem dX3_meetsZone_31 : decode cX3_meetsZone 31 = .ok (.iadd, 1) := by decide +kernel
theorem dX3_meetsZone_32 : decode cX3_meetsZone 32 = .ok (.if_icmp .gt 33, 3) := by decide +kernel
theorem dX3_meetsZone_35 : decode cX3_meetsZone 35 = .ok (.aload_n 0, 1) := by decide +kernel
theorem dX3_meetsZone_36 : decode cX3_meetsZone 36 = .ok (.getfield 15, 3) := by decide +kernel
theorem dX3_meetsZone_39 : decode cX3_meetsZone 39 = .ok (.aload_n 2, 1) := by decide +kernel
theorem dX3_meetsZone_40 : decode cX3_meetsZone 40 = .ok (.iload 4, 2) := by decide +kernel
theorem dX3_meetsZone_42 : decode cX3_meetsZone 42 = .ok (.invokevirtual 64, 3) := by decide +kernel
theorem dX3_meetsZone_45 : decode cX3_meetsZone 45 = .ok (.aload_n 1, 1) := by decide +kernel
theorem dX3_meetsZone_46 : decode cX3_meetsZone 46 = .ok (.getfield 76, 3) := by decide +kernel
theorem dX3_meetsZone_49 : decode cX3_meetsZone 49 = .ok (.iload 6, 2) := by decide +kernel
theorem dX3_meetsZone_51 : decode cX3_meetsZone 51 = .ok (.invokevirtual 79, 3) := by decide +kernel
theorem dX3_meetsZone_54 : decode cX3_meetsZone 54 = .ok (.ifCond .eq 5, 3) := by decide +kernel
theorem dX3_meetsZone_57 : decode cX3_meetsZone 57 = .ok (.iconst 1, 1) := by decide +kernel
theorem dX3_meetsZone_58 : decode cX3_meetsZone 58 = .ok (.ireturn, 1) := by decide +kernel
theorem dX3_meetsZone_59 : decode cX3_meetsZone 59 = .ok (.iinc 6 1, 3) := by decide +kernel
theorem dX3_meetsZone_62 : decode cX3_meetsZone 62 = .ok (.goto (-36), 3) := by decide +kernel
theorem dX3_meetsZone_65 : decode cX3_meetsZone 65 = .ok (.iinc 4 1, 3) := by decide +kernel
theorem dX3_meetsZone_68 : decode cX3_meetsZone 68 = .ok (.goto (-65), 3) := by decide +kernel
theorem dX3_meetsZone_71 : decode cX3_meetsZone 71 = .ok (.iconst 0, 1) := by decide +kernel
theorem dX3_meetsZone_72 : decode cX3_meetsZone 72 = .ok (.ireturn, 1) := by decide +kernel
theorem dX3_meetsOthers_0 : decode cX3_meetsOthers 0 = .ok (.iconst 0, 1) := by decide +kernel
theorem dX3_meetsOthers_1 : decode cX3_meetsOthers 1 = .ok (.istore 4, 2) := by decide +kernel
theorem dX3_meetsOthers_3 : decode cX3_meetsOthers 3 = .ok (.iload 4, 2) := by decide +kernel
theorem dX3_meetsOthers_5 : decode cX3_meetsOthers 5 = .ok (.aload_n 0, 1) := by decide +kernel
theorem dX3_meetsOthers_6 : decode cX3_meetsOthers 6 = .ok (.getfield 19, 3) := by decide +kernel
theorem dX3_meetsOthers_9 : decode cX3_meetsOthers 9 = .ok (.getfield 83, 3) := by decide +kernel
theorem dX3_meetsOthers_12 : decode cX3_meetsOthers 12 = .ok (.if_icmp .ge 60, 3) := by decide +kernel
theorem dX3_meetsOthers_15 : decode cX3_meetsOthers 15 = .ok (.aload_n 0, 1) := by decide +kernel
theorem dX3_meetsOthers_16 : decode cX3_meetsOthers 16 = .ok (.getfield 19, 3) := by decide +kernel
theorem dX3_meetsOthers_19 : decode cX3_meetsOthers 19 = .ok (.getfield 86, 3) := by decide +kernel
theorem dX3_meetsOthers_22 : decode cX3_meetsOthers 22 = .ok (.iload 4, 2) := by decide +kernel
theorem dX3_meetsOthers_24 : decode cX3_meetsOthers 24 = .ok (.aaload, 1) := by decide +kernel
theorem dX3_meetsOthers_25 : decode cX3_meetsOthers 25 = .ok (.astore 5, 2) := by decide +kernel
theorem dX3_meetsOthers_27 : decode cX3_meetsOthers 27 = .ok (.aload 5, 2) := by decide +kernel
theorem dX3_meetsOthers_29 : decode cX3_meetsOthers 29 = .ok (.getfield 90, 3) := by decide +kernel
theorem dX3_meetsOthers_32 : decode cX3_meetsOthers 32 = .ok (.iload_n 1, 1) := by decide +kernel
theorem dX3_meetsOthers_33 : decode cX3_meetsOthers 33 = .ok (.if_icmp .eq 33, 3) := by decide +kernel
theorem dX3_meetsOthers_36 : decode cX3_meetsOthers 36 = .ok (.aload 5, 2) := by decide +kernel
theorem dX3_meetsOthers_38 : decode cX3_meetsOthers 38 = .ok (.invokevirtual 95, 3) := by decide +kernel
theorem dX3_meetsOthers_41 : decode cX3_meetsOthers 41 = .ok (.ifCond .eq 25, 3) := by decide +kernel
theorem dX3_meetsOthers_44 : decode cX3_meetsOthers 44 = .ok (.aload 5, 2) := by decide +kernel
theorem dX3_meetsOthers_46 : decode cX3_meetsOthers 46 = .ok (.aload_n 2, 1) := by decide +kernel
theorem dX3_meetsOthers_47 : decode cX3_meetsOthers 47 = .ok (.iload_n 3, 1) := by decide +kernel
theorem dX3_meetsOthers_48 : decode cX3_meetsOthers 48 = .ok (.invokevirtual 99, 3) := by decide +kernel
theorem dX3_meetsOthers_51 : decode cX3_meetsOthers 51 = .ok (.ifCond .eq 15, 3) := by decide +kernel
theorem dX3_meetsOthers_54 : decode cX3_meetsOthers 54 = .ok (.aload 5, 2) := by decide +kernel
theorem dX3_meetsOthers_56 : decode cX3_meetsOthers 56 = .ok (.aload_n 2, 1) := by decide +kernel
theorem dX3_meetsOthers_57 : decode cX3_meetsOthers 57 = .ok (.iload_n 3, 1) := by decide +kernel
theorem dX3_meetsOthers_58 : decode cX3_meetsOthers 58 = .ok (.invokevirtual 103, 3) := by decide +kernel
theorem dX3_meetsOthers_61 : decode cX3_meetsOthers 61 = .ok (.ifCond .eq 5, 3) := by decide +kernel
theorem dX3_meetsOthers_64 : decode cX3_meetsOthers 64 = .ok (.iconst 1, 1) := by decide +kernel
theorem dX3_meetsOthers_65 : decode cX3_meetsOthers 65 = .ok (.ireturn, 1) := by decide +kernel
theorem dX3_meetsOthers_66 : decode cX3_meetsOthers 66 = .ok (.iinc 4 1, 3) := by decide +kernel
theorem dX3_meetsOthers_69 : decode cX3_meetsOthers 69 = .ok (.goto (-66), 3) := by decide +kernel
theorem dX3_meetsOthers_72 : decode cX3_meetsOthers 72 = .ok (.iconst 0, 1) := by decide +kernel
theorem dX3_meetsOthers_73 : decode cX3_meetsOthers 73 = .ok (.ireturn, 1) := by decide +kernel
theorem dX3_meetsItself_0 : decode cX3_meetsItself 0 = .ok (.iconst 0, 1) := by decide +kernel
theorem dX3_meetsItself_1 : decode cX3_meetsItself 1 = .ok (.istore 4, 2) := by decide +kernel
theorem dX3_meetsItself_3 : decode cX3_meetsItself 3 = .ok (.iload 4, 2) := by decide +kernel
theorem dX3_meetsItself_5 : decode cX3_meetsItself 5 = .ok (.aload_n 0, 1) := by decide +kernel
theorem dX3_meetsItself_6 : decode cX3_meetsItself 6 = .ok (.getfield 19, 3) := by decide +kernel
theorem dX3_meetsItself_9 : decode cX3_meetsItself 9 = .ok (.getfield 83, 3) := by decide +kernel
theorem dX3_meetsItself_12 : decode cX3_meetsItself 12 = .ok (.if_icmp .ge 50, 3) := by decide +kernel
theorem dX3_meetsItself_15 : decode cX3_meetsItself 15 = .ok (.aload_n 0, 1) := by decide +kernel
theorem dX3_meetsItself_16 : decode cX3_meetsItself 16 = .ok (.getfield 19, 3) := by decide +kernel
theorem dX3_meetsItself_19 : decode cX3_meetsItself 19 = .ok (.getfield 86, 3) := by decide +kernel
theorem dX3_meetsItself_22 : decode cX3_meetsItself 22 = .ok (.iload 4, 2) := by decide +kernel
theorem dX3_meetsItself_24 : decode cX3_meetsItself 24 = .ok (.aaload, 1) := by decide +kernel
theorem dX3_meetsItself_25 : decode cX3_meetsItself 25 = .ok (.astore 5, 2) := by decide +kernel
theorem dX3_meetsItself_27 : decode cX3_meetsItself 27 = .ok (.aload 5, 2) := by decide +kernel
theorem dX3_meetsItself_29 : decode cX3_meetsItself 29 = .ok (.getfield 90, 3) := by decide +kernel
theorem dX3_meetsItself_32 : decode cX3_meetsItself 32 = .ok (.iload_n 1, 1) := by decide +kernel
theorem dX3_meetsItself_33 : decode cX3_meetsItself 33 = .ok (.if_icmp .ne 23, 3) := by decide +kernel
theorem dX3_meetsItself_36 : decode cX3_meetsItself 36 = .ok (.aload 5, 2) := by decide +kernel
theorem dX3_meetsItself_38 : decode cX3_meetsItself 38 = .ok (.invokevirtual 95, 3) := by decide +kernel
theorem dX3_meetsItself_41 : decode cX3_meetsItself 41 = .ok (.ifCond .eq 15, 3) := by decide +kernel
theorem dX3_meetsItself_44 : decode cX3_meetsItself 44 = .ok (.aload 5, 2) := by decide +kernel
theorem dX3_meetsItself_46 : decode cX3_meetsItself 46 = .ok (.aload_n 2, 1) := by decide +kernel
theorem dX3_meetsItself_47 : decode cX3_meetsItself 47 = .ok (.iload_n 3, 1) := by decide +kernel
theorem dX3_meetsItself_48 : decode cX3_meetsItself 48 = .ok (.invokevirtual 99, 3) := by decide +kernel
theorem dX3_meetsItself_51 : decode cX3_meetsItself 51 = .ok (.ifCond .eq 5, 3) := by decide +kernel
theorem dX3_meetsItself_54 : decode cX3_meetsItself 54 = .ok (.iconst 1, 1) := by decide +kernel
theorem dX3_meetsItself_55 : decode cX3_meetsItself 55 = .ok (.ireturn, 1) := by decide +kernel
theorem dX3_meetsItself_56 : decode cX3_meetsItself 56 = .ok (.iinc 4 1, 3) := by decide +kernel
theorem dX3_meetsItself_59 : decode cX3_meetsItself 59 = .ok (.goto (-56), 3) := by decide +kernel
theorem dX3_meetsItself_62 : decode cX3_meetsItself 62 = .ok (.iconst 0, 1) := by decide +kernel
theorem dX3_meetsItself_63 : decode cX3_meetsItself 63 = .ok (.ireturn, 1) := by decide +kernel
theorem dX3_isTooLoud_0 : decode cX3_isTooLoud 0 = .ok (.aload_n 0, 1) := by decide +kernel
theorem dX3_isTooLoud_1 : decode cX3_isTooLoud 1 = .ok (.iload_n 3, 1) := by decide +kernel
theorem dX3_isTooLoud_2 : decode cX3_isTooLoud 2 = .ok (.sipush 1440, 3) := by decide +kernel
theorem dX3_isTooLoud_5 : decode cX3_isTooLoud 5 = .ok (.idiv, 1) := by decide +kernel
theorem dX3_isTooLoud_6 : decode cX3_isTooLoud 6 = .ok (.invokevirtual 106, 3) := by decide +kernel
theorem dX3_isTooLoud_9 : decode cX3_isTooLoud 9 = .ok (.aload_n 0, 1) := by decide +kernel
theorem dX3_isTooLoud_10 : decode cX3_isTooLoud 10 = .ok (.aload_n 1, 1) := by decide +kernel
theorem dX3_isTooLoud_11 : decode cX3_isTooLoud 11 = .ok (.aload_n 2, 1) := by decide +kernel
theorem dX3_isTooLoud_12 : decode cX3_isTooLoud 12 = .ok (.invokevirtual 110, 3) := by decide +kernel
theorem dX3_isTooLoud_15 : decode cX3_isTooLoud 15 = .ok (.iconst 0, 1) := by decide +kernel
theorem dX3_isTooLoud_16 : decode cX3_isTooLoud 16 = .ok (.istore 4, 2) := by decide +kernel
theorem dX3_isTooLoud_18 : decode cX3_isTooLoud 18 = .ok (.iload 4, 2) := by decide +kernel
theorem dX3_isTooLoud_20 : decode cX3_isTooLoud 20 = .ok (.aload_n 2, 1) := by decide +kernel
theorem dX3_isTooLoud_21 : decode cX3_isTooLoud 21 = .ok (.getfield 59, 3) := by decide +kernel
theorem dX3_isTooLoud_24 : decode cX3_isTooLoud 24 = .ok (.if_icmp .ge 39, 3) := by decide +kernel
theorem dX3_isTooLoud_27 : decode cX3_isTooLoud 27 = .ok (.aload_n 2, 1) := by decide +kernel
theorem dX3_isTooLoud_28 : decode cX3_isTooLoud 28 = .ok (.iload 4, 2) := by decide +kernel
theorem dX3_isTooLoud_30 : decode cX3_isTooLoud 30 = .ok (.invokevirtual 64, 3) := by decide +kernel
theorem dX3_isTooLoud_33 : decode cX3_isTooLoud 33 = .ok (.istore 5, 2) := by decide +kernel
theorem dX3_isTooLoud_35 : decode cX3_isTooLoud 35 = .ok (.iload 5, 2) := by decide +kernel
theorem dX3_isTooLoud_37 : decode cX3_isTooLoud 37 = .ok (.invokestatic 68, 3) := by decide +kernel
theorem dX3_isTooLoud_40 : decode cX3_isTooLoud 40 = .ok (.ifCond .eq 17, 3) := by decide +kernel
theorem dX3_isTooLoud_43 : decode cX3_isTooLoud 43 = .ok (.aload_n 0, 1) := by decide +kernel
theorem dX3_isTooLoud_44 : decode cX3_isTooLoud 44 = .ok (.getfield 9, 3) := by decide +kernel
theorem dX3_isTooLoud_47 : decode cX3_isTooLoud 47 = .ok (.iload 5, 2) := by decide +kernel
theorem dX3_isTooLoud_49 : decode cX3_isTooLoud 49 = .ok (.iaload, 1) := by decide +kernel
theorem dX3_isTooLoud_50 : decode cX3_isTooLoud 50 = .ok (.bipush 60, 2) := by decide +kernel
theorem dX3_isTooLoud_52 : decode cX3_isTooLoud 52 = .ok (.if_icmp .le 5, 3) := by decide +kernel
theorem dX3_isTooLoud_55 : decode cX3_isTooLoud 55 = .ok (.iconst 1, 1) := by decide +kernel
theorem dX3_isTooLoud_56 : decode cX3_isTooLoud 56 = .ok (.ireturn, 1) := by decide +kernel
theorem dX3_isTooLoud_57 : decode cX3_isTooLoud 57 = .ok (.iinc 4 1, 3) := by decide +kernel
theorem dX3_isTooLoud_60 : decode cX3_isTooLoud 60 = .ok (.goto (-42), 3) := by decide +kernel
theorem dX3_isTooLoud_63 : decode cX3_isTooLoud 63 = .ok (.iconst 0, 1) := by decide +kernel
theorem dX3_isTooLoud_64 : decode cX3_isTooLoud 64 = .ok (.ireturn, 1) := by decide +kernel
theorem dX3_plannedNoise_0 : decode cX3_plannedNoise 0 = .ok (.aload_n 0, 1) := by decide +kernel
theorem dX3_plannedNoise_1 : decode cX3_plannedNoise 1 = .ok (.iload_n 2, 1) := by decide +kernel
theorem dX3_plannedNoise_2 : decode cX3_plannedNoise 2 = .ok (.invokevirtual 106, 3) := by decide +kernel
theorem dX3_plannedNoise_5 : decode cX3_plannedNoise 5 = .ok (.aload_n 0, 1) := by decide +kernel
theorem dX3_plannedNoise_6 : decode cX3_plannedNoise 6 = .ok (.getfield 9, 3) := by decide +kernel
theorem dX3_plannedNoise_9 : decode cX3_plannedNoise 9 = .ok (.iload_n 1, 1) := by decide +kernel
theorem dX3_plannedNoise_10 : decode cX3_plannedNoise 10 = .ok (.iaload, 1) := by decide +kernel
theorem dX3_plannedNoise_11 : decode cX3_plannedNoise 11 = .ok (.ireturn, 1) := by decide +kernel
theorem dX3_planDay_0 : decode cX3_planDay 0 = .ok (.aload_n 0, 1) := by decide +kernel
theorem dX3_planDay_1 : decode cX3_planDay 1 = .ok (.getfield 9, 3) := by decide +kernel
theorem dX3_planDay_4 : decode cX3_planDay 4 = .ok (.iconst 0, 1) := by decide +kernel
theorem dX3_planDay_5 : decode cX3_planDay 5 = .ok (.invokestatic 114, 3) := by decide +kernel
theorem dX3_planDay_8 : decode cX3_planDay 8 = .ok (.iconst 0, 1) := by decide +kernel
theorem dX3_planDay_9 : decode cX3_planDay 9 = .ok (.istore_n 2, 1) := by decide +kernel
theorem dX3_planDay_10 : decode cX3_planDay 10 = .ok (.iload_n 2, 1) := by decide +kernel
theorem dX3_planDay_11 : decode cX3_planDay 11 = .ok (.aload_n 0, 1) := by decide +kernel
theorem dX3_planDay_12 : decode cX3_planDay 12 = .ok (.getfield 19, 3) := by decide +kernel
theorem dX3_planDay_15 : decode cX3_planDay 15 = .ok (.getfield 83, 3) := by decide +kernel
theorem dX3_planDay_18 : decode cX3_planDay 18 = .ok (.if_icmp .ge 61, 3) := by decide +kernel
theorem dX3_planDay_21 : decode cX3_planDay 21 = .ok (.aload_n 0, 1) := by decide +kernel
theorem dX3_planDay_22 : decode cX3_planDay 22 = .ok (.getfield 19, 3) := by decide +kernel
theorem dX3_planDay_25 : decode cX3_planDay 25 = .ok (.getfield 86, 3) := by decide +kernel
theorem dX3_planDay_28 : decode cX3_planDay 28 = .ok (.iload_n 2, 1) := by decide +kernel
theorem dX3_planDay_29 : decode cX3_planDay 29 = .ok (.aaload, 1) := by decide +kernel
theorem dX3_planDay_30 : decode cX3_planDay 30 = .ok (.astore_n 3, 1) := by decide +kernel
theorem dX3_planDay_31 : decode cX3_planDay 31 = .ok (.aload_n 3, 1) := by decide +kernel
theorem dX3_planDay_32 : decode cX3_planDay 32 = .ok (.iload_n 1, 1) := by decide +kernel
theorem dX3_planDay_33 : decode cX3_planDay 33 = .ok (.invokevirtual 120, 3) := by decide +kernel
theorem dX3_planDay_36 : decode cX3_planDay 36 = .ok (.ifCond .eq 37, 3) := by decide +kernel
theorem dX3_planDay_39 : decode cX3_planDay 39 = .ok (.aload_n 0, 1) := by decide +kernel
theorem dX3_planDay_40 : decode cX3_planDay 40 = .ok (.getfield 19, 3) := by decide +kernel
theorem dX3_planDay_43 : decode cX3_planDay 43 = .ok (.aload_n 3, 1) := by decide +kernel
theorem dX3_planDay_44 : decode cX3_planDay 44 = .ok (.getfield 90, 3) := by decide +kernel
theorem dX3_planDay_47 : decode cX3_planDay 47 = .ok (.invokevirtual 123, 3) := by decide +kernel
theorem dX3_planDay_50 : decode cX3_planDay 50 = .ok (.ifCond .eq 23, 3) := by decide +kernel
theorem dX3_planDay_53 : decode cX3_planDay 53 = .ok (.aload_n 0, 1) := by decide +kernel
theorem dX3_planDay_54 : decode cX3_planDay 54 = .ok (.aload_n 0, 1) := by decide +kernel
theorem dX3_planDay_55 : decode cX3_planDay 55 = .ok (.getfield 19, 3) := by decide +kernel
theorem dX3_planDay_58 : decode cX3_planDay 58 = .ok (.getfield 23, 3) := by decide +kernel
theorem dX3_planDay_61 : decode cX3_planDay 61 = .ok (.aload_n 3, 1) := by decide +kernel
theorem dX3_planDay_62 : decode cX3_planDay 62 = .ok (.getfield 90, 3) := by decide +kernel
theorem dX3_planDay_65 : decode cX3_planDay 65 = .ok (.aaload, 1) := by decide +kernel
theorem dX3_planDay_66 : decode cX3_planDay 66 = .ok (.aload_n 3, 1) := by decide +kernel
theorem dX3_planDay_67 : decode cX3_planDay 67 = .ok (.getfield 126, 3) := by decide +kernel
theorem dX3_planDay_70 : decode cX3_planDay 70 = .ok (.invokevirtual 110, 3) := by decide +kernel
theorem dX3_planDay_73 : decode cX3_planDay 73 = .ok (.iinc 2 1, 3) := by decide +kernel
theorem dX3_planDay_76 : decode cX3_planDay 76 = .ok (.goto (-66), 3) := by decide +kernel
theorem dX3_planDay_79 : decode cX3_planDay 79 = .ok (.return_, 1) := by decide +kernel
theorem dX3_plan_0 : decode cX3_plan 0 = .ok (.iconst 0, 1) := by decide +kernel
theorem dX3_plan_1 : decode cX3_plan 1 = .ok (.istore_n 3, 1) := by decide +kernel
theorem dX3_plan_2 : decode cX3_plan 2 = .ok (.iload_n 3, 1) := by decide +kernel
theorem dX3_plan_3 : decode cX3_plan 3 = .ok (.aload_n 2, 1) := by decide +kernel
theorem dX3_plan_4 : decode cX3_plan 4 = .ok (.getfield 59, 3) := by decide +kernel
theorem dX3_plan_7 : decode cX3_plan 7 = .ok (.if_icmp .ge 49, 3) := by decide +kernel
theorem dX3_plan_10 : decode cX3_plan 10 = .ok (.aload_n 2, 1) := by decide +kernel
theorem dX3_plan_11 : decode cX3_plan 11 = .ok (.iload_n 3, 1) := by decide +kernel
theorem dX3_plan_12 : decode cX3_plan 12 = .ok (.invokevirtual 64, 3) := by decide +kernel
theorem dX3_plan_15 : decode cX3_plan 15 = .ok (.istore 4, 2) := by decide +kernel
theorem dX3_plan_17 : decode cX3_plan 17 = .ok (.iload 4, 2) := by decide +kernel
theorem dX3_plan_19 : decode cX3_plan 19 = .ok (.invokestatic 68, 3) := by decide +kernel
theorem dX3_plan_22 : decode cX3_plan 22 = .ok (.ifCond .eq 28, 3) := by decide +kernel
theorem dX3_plan_25 : decode cX3_plan 25 = .ok (.aload_n 0, 1) := by decide +kernel
theorem dX3_plan_26 : decode cX3_plan 26 = .ok (.getfield 9, 3) := by decide +kernel
theorem dX3_plan_29 : decode cX3_plan 29 = .ok (.iload 4, 2) := by decide +kernel
theorem dX3_plan_31 : decode cX3_plan 31 = .ok (.dup2, 1) := by decide +kernel
theorem dX3_plan_32 : decode cX3_plan 32 = .ok (.iaload, 1) := by decide +kernel
theorem dX3_plan_33 : decode cX3_plan 33 = .ok (.aload_n 1, 1) := by decide +kernel
theorem dX3_plan_34 : decode cX3_plan 34 = .ok (.getfield 130, 3) := by decide +kernel
theorem dX3_plan_37 : decode cX3_plan 37 = .ok (.aload_n 0, 1) := by decide +kernel
theorem dX3_plan_38 : decode cX3_plan 38 = .ok (.getfield 15, 3) := by decide +kernel
theorem dX3_plan_41 : decode cX3_plan 41 = .ok (.getfield 133, 3) := by decide +kernel
theorem dX3_plan_44 : decode cX3_plan 44 = .ok (.iload 4, 2) := by decide +kernel
theorem dX3_plan_46 : decode cX3_plan 46 = .ok (.iaload, 1) := by decide +kernel
theorem dX3_plan_47 : decode cX3_plan 47 = .ok (.imul, 1) := by decide +kernel
theorem dX3_plan_48 : decode cX3_plan 48 = .ok (.iadd, 1) := by decide +kernel
theorem dX3_plan_49 : decode cX3_plan 49 = .ok (.iastore, 1) := by decide +kernel
theorem dX3_plan_50 : decode cX3_plan 50 = .ok (.iinc 3 1, 3) := by decide +kernel
theorem dX3_plan_53 : decode cX3_plan 53 = .ok (.goto (-51), 3) := by decide +kernel
theorem dX3_plan_56 : decode cX3_plan 56 = .ok (.return_, 1) := by decide +kernel
theorem dX4_init_0 : decode cX4_init 0 = .ok (.aload_n 0, 1) := by decide +kernel
theorem dX4_init_1 : decode cX4_init 1 = .ok (.invokespecial 3, 3) := by decide +kernel
theorem dX4_init_4 : decode cX4_init 4 = .ok (.aload_n 0, 1) := by decide +kernel
theorem dX4_init_5 : decode cX4_init 5 = .ok (.bipush 10, 2) := by decide +kernel
theorem dX4_init_7 : decode cX4_init 7 = .ok (.newarray .int, 2) := by decide +kernel
theorem dX4_init_9 : decode cX4_init 9 = .ok (.putfield 9, 3) := by decide +kernel
theorem dX4_init_12 : decode cX4_init 12 = .ok (.return_, 1) := by decide +kernel
theorem dX4_first_0 : decode cX4_first 0 = .ok (.aload_n 0, 1) := by decide +kernel
theorem dX4_first_1 : decode cX4_first 1 = .ok (.getfield 15, 3) := by decide +kernel
theorem dX4_first_4 : decode cX4_first 4 = .ok (.ifCond .le 12, 3) := by decide +kernel
theorem dX4_first_7 : decode cX4_first 7 = .ok (.aload_n 0, 1) := by decide +kernel
theorem dX4_first_8 : decode cX4_first 8 = .ok (.getfield 9, 3) := by decide +kernel
theorem dX4_first_11 : decode cX4_first 11 = .ok (.iconst 0, 1) := by decide +kernel
theorem dX4_first_12 : decode cX4_first 12 = .ok (.iaload, 1) := by decide +kernel
theorem dX4_first_13 : decode cX4_first 13 = .ok (.goto 4, 3) := by decide +kernel
theorem dX4_first_16 : decode cX4_first 16 = .ok (.iconst (-1), 1) := by decide +kernel
