theorem dX4_first_17 : decode cX4_first 17 = .ok (.ireturn, 1) := by decide +kernel
theorem dX4_last_0 : decode cX4_last 0 = .ok (.aload_n 0, 1) := by decide +kernel
theorem dX4_last_1 : decode cX4_last 1 = .ok (.getfield 15, 3) := by decide +kernel
theorem dX4_last_4 : decode cX4_last 4 = .ok (.ifCond .le 26, 3) := by decide +kernel
theorem dX4_last_7 : decode cX4_last 7 = .ok (.aload_n 0, 1) := by decide +kernel
theorem dX4_last_8 : decode cX4_last 8 = .ok (.getfield 15, 3) := by decide +kernel
theorem dX4_last_11 : decode cX4_last 11 = .ok (.bipush 10, 2) := by decide +kernel
theorem dX4_last_13 : decode cX4_last 13 = .ok (.if_icmp .gt 17, 3) := by decide +kernel
theorem dX4_last_16 : decode cX4_last 16 = .ok (.aload_n 0, 1) := by decide +kernel
theorem dX4_last_17 : decode cX4_last 17 = .ok (.getfield 9, 3) := by decide +kernel
theorem dX4_last_20 : decode cX4_last 20 = .ok (.aload_n 0, 1) := by decide +kernel
theorem dX4_last_21 : decode cX4_last 21 = .ok (.getfield 15, 3) := by decide +kernel
theorem dX4_last_24 : decode cX4_last 24 = .ok (.iconst 1, 1) := by decide +kernel
theorem dX4_last_25 : decode cX4_last 25 = .ok (.isub, 1) := by decide +kernel
theorem dX4_last_26 : decode cX4_last 26 = .ok (.iaload, 1) := by decide +kernel
theorem dX4_last_27 : decode cX4_last 27 = .ok (.goto 4, 3) := by decide +kernel
theorem dX4_last_30 : decode cX4_last 30 = .ok (.iconst (-1), 1) := by decide +kernel
theorem dX4_last_31 : decode cX4_last 31 = .ok (.ireturn, 1) := by decide +kernel
theorem dX4_at_0 : decode cX4_at 0 = .ok (.iload_n 1, 1) := by decide +kernel
theorem dX4_at_1 : decode cX4_at 1 = .ok (.ifCond .lt 26, 3) := by decide +kernel
theorem dX4_at_4 : decode cX4_at 4 = .ok (.iload_n 1, 1) := by decide +kernel
theorem dX4_at_5 : decode cX4_at 5 = .ok (.aload_n 0, 1) := by decide +kernel
theorem dX4_at_6 : decode cX4_at 6 = .ok (.getfield 15, 3) := by decide +kernel
theorem dX4_at_9 : decode cX4_at 9 = .ok (.if_icmp .ge 18, 3) := by decide +kernel
theorem dX4_at_12 : decode cX4_at 12 = .ok (.iload_n 1, 1) := by decide +kernel
theorem dX4_at_13 : decode cX4_at 13 = .ok (.bipush 10, 2) := by decide +kernel
theorem dX4_at_15 : decode cX4_at 15 = .ok (.if_icmp .ge 12, 3) := by decide +kernel
theorem dX4_at_18 : decode cX4_at 18 = .ok (.aload_n 0, 1) := by decide +kernel
theorem dX4_at_19 : decode cX4_at 19 = .ok (.getfield 9, 3) := by decide +kernel
theorem dX4_at_22 : decode cX4_at 22 = .ok (.iload_n 1, 1) := by decide +kernel
theorem dX4_at_23 : decode cX4_at 23 = .ok (.iaload, 1) := by decide +kernel
theorem dX4_at_24 : decode cX4_at 24 = .ok (.goto 4, 3) := by decide +kernel
theorem dX4_at_27 : decode cX4_at 27 = .ok (.iconst (-1), 1) := by decide +kernel
theorem dX4_at_28 : decode cX4_at 28 = .ok (.ireturn, 1) := by decide +kernel
theorem dX4_endFrom_0 : decode cX4_endFrom 0 = .ok (.iload_n 1, 1) := by decide +kernel
theorem dX4_endFrom_1 : decode cX4_endFrom 1 = .ok (.iconst 2, 1) := by decide +kernel
theorem dX4_endFrom_2 : decode cX4_endFrom 2 = .ok (.aload_n 0, 1) := by decide +kernel
theorem dX4_endFrom_3 : decode cX4_endFrom 3 = .ok (.getfield 15, 3) := by decide +kernel
theorem dX4_endFrom_6 : decode cX4_endFrom 6 = .ok (.iconst 1, 1) := by decide +kernel
theorem dX4_endFrom_7 : decode cX4_endFrom 7 = .ok (.isub, 1) := by decide +kernel
theorem dX4_endFrom_8 : decode cX4_endFrom 8 = .ok (.imul, 1) := by decide +kernel
theorem dX4_endFrom_9 : decode cX4_endFrom 9 = .ok (.iadd, 1) := by decide +kernel
theorem dX4_endFrom_10 : decode cX4_endFrom 10 = .ok (.ireturn, 1) := by decide +kernel
theorem dX4_copyFrom_0 : decode cX4_copyFrom 0 = .ok (.aload_n 1, 1) := by decide +kernel
theorem dX4_copyFrom_1 : decode cX4_copyFrom 1 = .ok (.getfield 9, 3) := by decide +kernel
theorem dX4_copyFrom_4 : decode cX4_copyFrom 4 = .ok (.iconst 0, 1) := by decide +kernel
theorem dX4_copyFrom_5 : decode cX4_copyFrom 5 = .ok (.aload_n 0, 1) := by decide +kernel
theorem dX4_copyFrom_6 : decode cX4_copyFrom 6 = .ok (.getfield 9, 3) := by decide +kernel
theorem dX4_copyFrom_9 : decode cX4_copyFrom 9 = .ok (.iconst 0, 1) := by decide +kernel
theorem dX4_copyFrom_10 : decode cX4_copyFrom 10 = .ok (.bipush 10, 2) := by decide +kernel
theorem dX4_copyFrom_12 : decode cX4_copyFrom 12 = .ok (.invokestatic 19, 3) := by decide +kernel
theorem dX4_copyFrom_15 : decode cX4_copyFrom 15 = .ok (.aload_n 0, 1) := by decide +kernel
theorem dX4_copyFrom_16 : decode cX4_copyFrom 16 = .ok (.aload_n 1, 1) := by decide +kernel
theorem dX4_copyFrom_17 : decode cX4_copyFrom 17 = .ok (.getfield 15, 3) := by decide +kernel
theorem dX4_copyFrom_20 : decode cX4_copyFrom 20 = .ok (.putfield 15, 3) := by decide +kernel
theorem dX4_copyFrom_23 : decode cX4_copyFrom 23 = .ok (.return_, 1) := by decide +kernel
theorem dX5_init_0 : decode cX5_init 0 = .ok (.aload_n 0, 1) := by decide +kernel
theorem dX5_init_1 : decode cX5_init 1 = .ok (.invokespecial 3, 3) := by decide +kernel
theorem dX5_init_4 : decode cX5_init 4 = .ok (.aload_n 0, 1) := by decide +kernel
theorem dX5_init_5 : decode cX5_init 5 = .ok (.bipush 25, 2) := by decide +kernel
theorem dX5_init_7 : decode cX5_init 7 = .ok (.newarray .boolean, 2) := by decide +kernel
theorem dX5_init_9 : decode cX5_init 9 = .ok (.putfield 9, 3) := by decide +kernel
theorem dX5_init_12 : decode cX5_init 12 = .ok (.aload_n 0, 1) := by decide +kernel
theorem dX5_init_13 : decode cX5_init 13 = .ok (.bipush 25, 2) := by decide +kernel
theorem dX5_init_15 : decode cX5_init 15 = .ok (.newarray .int, 2) := by decide +kernel
theorem dX5_init_17 : decode cX5_init 17 = .ok (.putfield 15, 3) := by decide +kernel
theorem dX5_init_20 : decode cX5_init 20 = .ok (.aload_n 0, 1) := by decide +kernel
theorem dX5_init_21 : decode cX5_init 21 = .ok (.aload_n 1, 1) := by decide +kernel
theorem dX5_init_22 : decode cX5_init 22 = .ok (.putfield 19, 3) := by decide +kernel
theorem dX5_init_25 : decode cX5_init 25 = .ok (.return_, 1) := by decide +kernel
theorem dX5_fewestMoves_0 : decode cX5_fewestMoves 0 = .ok (.aload_n 0, 1) := by decide +kernel
theorem dX5_fewestMoves_1 : decode cX5_fewestMoves 1 = .ok (.aload_n 1, 1) := by decide +kernel
theorem dX5_fewestMoves_2 : decode cX5_fewestMoves 2 = .ok (.iload_n 2, 1) := by decide +kernel
theorem dX5_fewestMoves_3 : decode cX5_fewestMoves 3 = .ok (.iload_n 3, 1) := by decide +kernel
theorem dX5_fewestMoves_4 : decode cX5_fewestMoves 4 = .ok (.iconst 0, 1) := by decide +kernel
theorem dX5_fewestMoves_5 : decode cX5_fewestMoves 5 = .ok (.invokevirtual 23, 3) := by decide +kernel
theorem dX5_fewestMoves_8 : decode cX5_fewestMoves 8 = .ok (.ireturn, 1) := by decide +kernel
theorem dX5_leastCharge_0 : decode cX5_leastCharge 0 = .ok (.aload_n 0, 1) := by decide +kernel
theorem dX5_leastCharge_1 : decode cX5_leastCharge 1 = .ok (.aload_n 1, 1) := by decide +kernel
theorem dX5_leastCharge_2 : decode cX5_leastCharge 2 = .ok (.iload_n 2, 1) := by decide +kernel
theorem dX5_leastCharge_3 : decode cX5_leastCharge 3 = .ok (.iload_n 3, 1) := by decide +kernel
theorem dX5_leastCharge_4 : decode cX5_leastCharge 4 = .ok (.iconst 1, 1) := by decide +kernel
theorem dX5_leastCharge_5 : decode cX5_leastCharge 5 = .ok (.invokevirtual 23, 3) := by decide +kernel
theorem dX5_leastCharge_8 : decode cX5_leastCharge 8 = .ok (.ireturn, 1) := by decide +kernel
theorem dX5_least_0 : decode cX5_least 0 = .ok (.iconst 0, 1) := by decide +kernel
theorem dX5_least_1 : decode cX5_least 1 = .ok (.istore 5, 2) := by decide +kernel
theorem dX5_least_3 : decode cX5_least 3 = .ok (.iload 5, 2) := by decide +kernel
theorem dX5_least_5 : decode cX5_least 5 = .ok (.bipush 25, 2) := by decide +kernel
theorem dX5_least_7 : decode cX5_least 7 = .ok (.if_icmp .ge 51, 3) := by decide +kernel
theorem dX5_least_10 : decode cX5_least 10 = .ok (.aload_n 0, 1) := by decide +kernel
theorem dX5_least_11 : decode cX5_least 11 = .ok (.getfield 9, 3) := by decide +kernel
theorem dX5_least_14 : decode cX5_least 14 = .ok (.iload 5, 2) := by decide +kernel
theorem dX5_least_16 : decode cX5_least 16 = .ok (.aload_n 0, 1) := by decide +kernel
theorem dX5_least_17 : decode cX5_least 17 = .ok (.getfield 19, 3) := by decide +kernel
theorem dX5_least_20 : decode cX5_least 20 = .ok (.getfield 27, 3) := by decide +kernel
theorem dX5_least_23 : decode cX5_least 23 = .ok (.iload 5, 2) := by decide +kernel
theorem dX5_least_25 : decode cX5_least 25 = .ok (.baload, 1) := by decide +kernel
theorem dX5_least_26 : decode cX5_least 26 = .ok (.ifCond .ne 24, 3) := by decide +kernel
theorem dX5_least_29 : decode cX5_least 29 = .ok (.aload_n 0, 1) := by decide +kernel
theorem dX5_least_30 : decode cX5_least 30 = .ok (.getfield 19, 3) := by decide +kernel
theorem dX5_least_33 : decode cX5_least 33 = .ok (.iload 5, 2) := by decide +kernel
theorem dX5_least_35 : decode cX5_least 35 = .ok (.aload_n 1, 1) := by decide +kernel
theorem dX5_least_36 : decode cX5_least 36 = .ok (.getfield 32, 3) := by decide +kernel
theorem dX5_least_39 : decode cX5_least 39 = .ok (.iload_n 3, 1) := by decide +kernel
theorem dX5_least_40 : decode cX5_least 40 = .ok (.invokevirtual 38, 3) := by decide +kernel
theorem dX5_least_43 : decode cX5_least 43 = .ok (.ifCond .ne 7, 3) := by decide +kernel
theorem dX5_least_46 : decode cX5_least 46 = .ok (.iconst 1, 1) := by decide +kernel
theorem dX5_least_47 : decode cX5_least 47 = .ok (.goto 4, 3) := by decide +kernel
theorem dX5_least_50 : decode cX5_least 50 = .ok (.iconst 0, 1) := by decide +kernel
theorem dX5_least_51 : decode cX5_least 51 = .ok (.bastore, 1) := by decide +kernel
theorem dX5_least_52 : decode cX5_least 52 = .ok (.iinc 5 1, 3) := by decide +kernel
theorem dX5_least_55 : decode cX5_least 55 = .ok (.goto (-52), 3) := by decide +kernel
theorem dX5_least_58 : decode cX5_least 58 = .ok (.aload_n 0, 1) := by decide +kernel
theorem dX5_least_59 : decode cX5_least 59 = .ok (.getfield 15, 3) := by decide +kernel
theorem dX5_least_62 : decode cX5_least 62 = .ok (.ldc 42, 2) := by decide +kernel
theorem dX5_least_64 : decode cX5_least 64 = .ok (.invokestatic 43, 3) := by decide +kernel
theorem dX5_least_67 : decode cX5_least 67 = .ok (.aload_n 1, 1) := by decide +kernel
theorem dX5_least_68 : decode cX5_least 68 = .ok (.getfield 49, 3) := by decide +kernel
theorem dX5_least_71 : decode cX5_least 71 = .ok (.invokestatic 52, 3) := by decide +kernel
theorem dX5_least_74 : decode cX5_least 74 = .ok (.ifCond .eq 13, 3) := by decide +kernel
theorem dX5_least_77 : decode cX5_least 77 = .ok (.aload_n 0, 1) := by decide +kernel
theorem dX5_least_78 : decode cX5_least 78 = .ok (.getfield 15, 3) := by decide +kernel
theorem dX5_least_81 : decode cX5_least 81 = .ok (.aload_n 1, 1) := by decide +kernel
theorem dX5_least_82 : decode cX5_least 82 = .ok (.getfield 49, 3) := by decide +kernel
theorem dX5_least_85 : decode cX5_least 85 = .ok (.iconst 0, 1) := by decide +kernel
theorem dX5_least_86 : decode cX5_least 86 = .ok (.iastore, 1) := by decide +kernel
theorem dX5_least_87 : decode cX5_least 87 = .ok (.iconst 1, 1) := by decide +kernel
theorem dX5_least_88 : decode cX5_least 88 = .ok (.istore 5, 2) := by decide +kernel
theorem dX5_least_90 : decode cX5_least 90 = .ok (.iconst 0, 1) := by decide +kernel
theorem dX5_least_91 : decode cX5_least 91 = .ok (.istore 6, 2) := by decide +kernel
theorem dX5_least_93 : decode cX5_least 93 = .ok (.iload 6, 2) := by decide +kernel
theorem dX5_least_95 : decode cX5_least 95 = .ok (.bipush 25, 2) := by decide +kernel
theorem dX5_least_97 : decode cX5_least 97 = .ok (.if_icmp .ge 22, 3) := by decide +kernel
theorem dX5_least_100 : decode cX5_least 100 = .ok (.iload 5, 2) := by decide +kernel
theorem dX5_least_102 : decode cX5_least 102 = .ok (.ifCond .eq 17, 3) := by decide +kernel
theorem dX5_least_105 : decode cX5_least 105 = .ok (.aload_n 0, 1) := by decide +kernel
theorem dX5_least_106 : decode cX5_least 106 = .ok (.iload 4, 2) := by decide +kernel
theorem dX5_least_108 : decode cX5_least 108 = .ok (.invokevirtual 56, 3) := by decide +kernel
theorem dX5_least_111 : decode cX5_least 111 = .ok (.istore 5, 2) := by decide +kernel
theorem dX5_least_113 : decode cX5_least 113 = .ok (.iinc 6 1, 3) := by decide +kernel
theorem dX5_least_116 : decode cX5_least 116 = .ok (.goto (-23), 3) := by decide +kernel
theorem dX5_least_119 : decode cX5_least 119 = .ok (.aload_n 0, 1) := by decide +kernel
theorem dX5_least_120 : decode cX5_least 120 = .ok (.getfield 15, 3) := by decide +kernel
theorem dX5_least_123 : decode cX5_least 123 = .ok (.iload_n 2, 1) := by decide +kernel
theorem dX5_least_124 : decode cX5_least 124 = .ok (.iaload, 1) := by decide +kernel
theorem dX5_least_125 : decode cX5_least 125 = .ok (.ldc 42, 2) := by decide +kernel
theorem dX5_least_127 : decode cX5_least 127 = .ok (.if_icmp .ge 12, 3) := by decide +kernel
theorem dX5_least_130 : decode cX5_least 130 = .ok (.aload_n 0, 1) := by decide +kernel
theorem dX5_least_131 : decode cX5_least 131 = .ok (.getfield 15, 3) := by decide +kernel
theorem dX5_least_134 : decode cX5_least 134 = .ok (.iload_n 2, 1) := by decide +kernel
theorem dX5_least_135 : decode cX5_least 135 = .ok (.iaload, 1) := by decide +kernel
theorem dX5_least_136 : decode cX5_least 136 = .ok (.goto 4, 3) := by decide +kernel
theorem dX5_least_139 : decode cX5_least 139 = .ok (.iconst (-1), 1) := by decide +kernel
theorem dX5_least_140 : decode cX5_least 140 = .ok (.ireturn, 1) := by decide +kernel
theorem dX5_spreadAll_0 : decode cX5_spreadAll 0 = .ok (.iconst 0, 1) := by decide +kernel
theorem dX5_spreadAll_1 : decode cX5_spreadAll 1 = .ok (.istore_n 2, 1) := by decide +kernel
theorem dX5_spreadAll_2 : decode cX5_spreadAll 2 = .ok (.iconst 0, 1) := by decide +kernel
theorem dX5_spreadAll_3 : decode cX5_spreadAll 3 = .ok (.istore_n 3, 1) := by decide +kernel
theorem dX5_spreadAll_4 : decode cX5_spreadAll 4 = .ok (.iload_n 3, 1) := by decide +kernel
theorem dX5_spreadAll_5 : decode cX5_spreadAll 5 = .ok (.bipush 25, 2) := by decide +kernel
theorem dX5_spreadAll_7 : decode cX5_spreadAll 7 = .ok (.if_icmp .ge 48, 3) := by decide +kernel
theorem dX5_spreadAll_10 : decode cX5_spreadAll 10 = .ok (.iconst 0, 1) := by decide +kernel
theorem dX5_spreadAll_11 : decode cX5_spreadAll 11 = .ok (.istore 4, 2) := by decide +kernel
theorem dX5_spreadAll_13 : decode cX5_spreadAll 13 = .ok (.iload 4, 2) := by decide +kernel
theorem dX5_spreadAll_15 : decode cX5_spreadAll 15 = .ok (.iconst 4, 1) := by decide +kernel
theorem dX5_spreadAll_16 : decode cX5_spreadAll 16 = .ok (.if_icmp .ge 33, 3) := by decide +kernel
theorem dX5_spreadAll_19 : decode cX5_spreadAll 19 = .ok (.aload_n 0, 1) := by decide +kernel
theorem dX5_spreadAll_20 : decode cX5_spreadAll 20 = .ok (.getfield 15, 3) := by decide +kernel
theorem dX5_spreadAll_23 : decode cX5_spreadAll 23 = .ok (.iload_n 3, 1) := by decide +kernel
theorem dX5_spreadAll_24 : decode cX5_spreadAll 24 = .ok (.iaload, 1) := by decide +kernel
theorem dX5_spreadAll_25 : decode cX5_spreadAll 25 = .ok (.ldc 42, 2) := by decide +kernel
theorem dX5_spreadAll_27 : decode cX5_spreadAll 27 = .ok (.if_icmp .ge 16, 3) := by decide +kernel
theorem dX5_spreadAll_30 : decode cX5_spreadAll 30 = .ok (.aload_n 0, 1) := by decide +kernel
theorem dX5_spreadAll_31 : decode cX5_spreadAll 31 = .ok (.iload_n 3, 1) := by decide +kernel
theorem dX5_spreadAll_32 : decode cX5_spreadAll 32 = .ok (.iload 4, 2) := by decide +kernel
theorem dX5_spreadAll_34 : decode cX5_spreadAll 34 = .ok (.iload_n 1, 1) := by decide +kernel
theorem dX5_spreadAll_35 : decode cX5_spreadAll 35 = .ok (.invokevirtual 60, 3) := by decide +kernel
theorem dX5_spreadAll_38 : decode cX5_spreadAll 38 = .ok (.ifCond .eq 5, 3) := by decide +kernel
theorem dX5_spreadAll_41 : decode cX5_spreadAll 41 = .ok (.iconst 1, 1) := by decide +kernel
theorem dX5_spreadAll_42 : decode cX5_spreadAll 42 = .ok (.istore_n 2, 1) := by decide +kernel
theorem dX5_spreadAll_43 : decode cX5_spreadAll 43 = .ok (.iinc 4 1, 3) := by decide +kernel
theorem dX5_spreadAll_46 : decode cX5_spreadAll 46 = .ok (.goto (-33), 3) := by decide +kernel
theorem dX5_spreadAll_49 : decode cX5_spreadAll 49 = .ok (.iinc 3 1, 3) := by decide +kernel
theorem dX5_spreadAll_52 : decode cX5_spreadAll 52 = .ok (.goto (-48), 3) := by decide +kernel
theorem dX5_spreadAll_55 : decode cX5_spreadAll 55 = .ok (.iload_n 2, 1) := by decide +kernel
theorem dX5_spreadAll_56 : decode cX5_spreadAll 56 = .ok (.ireturn, 1) := by decide +kernel
theorem dX5_spread_0 : decode cX5_spread 0 = .ok (.iload_n 1, 1) := by decide +kernel
theorem dX5_spread_1 : decode cX5_spread 1 = .ok (.iload_n 2, 1) := by decide +kernel
theorem dX5_spread_2 : decode cX5_spread 2 = .ok (.invokestatic 64, 3) := by decide +kernel
theorem dX5_spread_5 : decode cX5_spread 5 = .ok (.istore 4, 2) := by decide +kernel
theorem dX5_spread_7 : decode cX5_spread 7 = .ok (.iload 4, 2) := by decide +kernel
theorem dX5_spread_9 : decode cX5_spread 9 = .ok (.invokestatic 52, 3) := by decide +kernel
theorem dX5_spread_12 : decode cX5_spread 12 = .ok (.ifCond .eq 13, 3) := by decide +kernel
theorem dX5_spread_15 : decode cX5_spread 15 = .ok (.aload_n 0, 1) := by decide +kernel
theorem dX5_spread_16 : decode cX5_spread 16 = .ok (.getfield 9, 3) := by decide +kernel
theorem dX5_spread_19 : decode cX5_spread 19 = .ok (.iload 4, 2) := by decide +kernel
theorem dX5_spread_21 : decode cX5_spread 21 = .ok (.baload, 1) := by decide +kernel
theorem dX5_spread_22 : decode cX5_spread 22 = .ok (.ifCond .ne 5, 3) := by decide +kernel
theorem dX5_spread_25 : decode cX5_spread 25 = .ok (.iconst 0, 1) := by decide +kernel
theorem dX5_spread_26 : decode cX5_spread 26 = .ok (.ireturn, 1) := by decide +kernel
theorem dX5_spread_27 : decode cX5_spread 27 = .ok (.aload_n 0, 1) := by decide +kernel
theorem dX5_spread_28 : decode cX5_spread 28 = .ok (.getfield 15, 3) := by decide +kernel
theorem dX5_spread_31 : decode cX5_spread 31 = .ok (.iload_n 1, 1) := by decide +kernel
theorem dX5_spread_32 : decode cX5_spread 32 = .ok (.iaload, 1) := by decide +kernel
theorem dX5_spread_33 : decode cX5_spread 33 = .ok (.iload_n 3, 1) := by decide +kernel
theorem dX5_spread_34 : decode cX5_spread 34 = .ok (.ifCond .eq 14, 3) := by decide +kernel
theorem dX5_spread_37 : decode cX5_spread 37 = .ok (.aload_n 0, 1) := by decide +kernel
theorem dX5_spread_38 : decode cX5_spread 38 = .ok (.getfield 19, 3) := by decide +kernel
theorem dX5_spread_41 : decode cX5_spread 41 = .ok (.iload_n 2, 1) := by decide +kernel
theorem dX5_spread_42 : decode cX5_spread 42 = .ok (.invokevirtual 68, 3) := by decide +kernel
theorem dX5_spread_45 : decode cX5_spread 45 = .ok (.goto 4, 3) := by decide +kernel
theorem dX5_spread_48 : decode cX5_spread 48 = .ok (.iconst 1, 1) := by decide +kernel
theorem dX5_spread_49 : decode cX5_spread 49 = .ok (.iadd, 1) := by decide +kernel
theorem dX5_spread_50 : decode cX5_spread 50 = .ok (.istore 5, 2) := by decide +kernel
theorem dX5_spread_52 : decode cX5_spread 52 = .ok (.iload 5, 2) := by decide +kernel
theorem dX5_spread_54 : decode cX5_spread 54 = .ok (.aload_n 0, 1) := by decide +kernel
theorem dX5_spread_55 : decode cX5_spread 55 = .ok (.getfield 15, 3) := by decide +kernel
theorem dX5_spread_58 : decode cX5_spread 58 = .ok (.iload 4, 2) := by decide +kernel
theorem dX5_spread_60 : decode cX5_spread 60 = .ok (.iaload, 1) := by decide +kernel
theorem dX5_spread_61 : decode cX5_spread 61 = .ok (.if_icmp .lt 5, 3) := by decide +kernel
theorem dX5_spread_64 : decode cX5_spread 64 = .ok (.iconst 0, 1) := by decide +kernel
theorem dX5_spread_65 : decode cX5_spread 65 = .ok (.ireturn, 1) := by decide +kernel
theorem dX5_spread_66 : decode cX5_spread 66 = .ok (.aload_n 0, 1) := by decide +kernel
theorem dX5_spread_67 : decode cX5_spread 67 = .ok (.getfield 15, 3) := by decide +kernel
theorem dX5_spread_70 : decode cX5_spread 70 = .ok (.iload 4, 2) := by decide +kernel
theorem dX5_spread_72 : decode cX5_spread 72 = .ok (.iload 5, 2) := by decide +kernel
theorem dX5_spread_74 : decode cX5_spread 74 = .ok (.iastore, 1) := by decide +kernel
theorem dX5_spread_75 : decode cX5_spread 75 = .ok (.iconst 1, 1) := by decide +kernel
theorem dX5_spread_76 : decode cX5_spread 76 = .ok (.ireturn, 1) := by decide +kernel
theorem dX6_init_0 : decode cX6_init 0 = .ok (.aload_n 0, 1) := by decide +kernel
theorem dX6_init_1 : decode cX6_init 1 = .ok (.invokespecial 3, 3) := by decide +kernel
theorem dX6_init_4 : decode cX6_init 4 = .ok (.aload_n 0, 1) := by decide +kernel
theorem dX6_init_5 : decode cX6_init 5 = .ok (.bipush 6, 2) := by decide +kernel
theorem dX6_init_7 : decode cX6_init 7 = .ok (.anewarray 9, 3) := by decide +kernel
theorem dX6_init_10 : decode cX6_init 10 = .ok (.putfield 11, 3) := by decide +kernel
theorem dX6_init_13 : decode cX6_init 13 = .ok (.aload_n 0, 1) := by decide +kernel
theorem dX6_init_14 : decode cX6_init 14 = .ok (.bipush 12, 2) := by decide +kernel
theorem dX6_init_16 : decode cX6_init 16 = .ok (.anewarray 17, 3) := by decide +kernel
theorem dX6_init_19 : decode cX6_init 19 = .ok (.putfield 19, 3) := by decide +kernel
theorem dX6_init_22 : decode cX6_init 22 = .ok (.aload_n 0, 1) := by decide +kernel
theorem dX6_init_23 : decode cX6_init 23 = .ok (.bipush 25, 2) := by decide +kernel
theorem dX6_init_25 : decode cX6_init 25 = .ok (.newarray .int, 2) := by decide +kernel
theorem dX6_init_27 : decode cX6_init 27 = .ok (.putfield 23, 3) := by decide +kernel
theorem dX6_init_30 : decode cX6_init 30 = .ok (.aload_n 0, 1) := by decide +kernel
theorem dX6_init_31 : decode cX6_init 31 = .ok (.aload_n 1, 1) := by decide +kernel
theorem dX6_init_32 : decode cX6_init 32 = .ok (.putfield 27, 3) := by decide +kernel
theorem dX6_init_35 : decode cX6_init 35 = .ok (.iconst 0, 1) := by decide +kernel
theorem dX6_init_36 : decode cX6_init 36 = .ok (.istore_n 2, 1) := by decide +kernel
theorem dX6_init_37 : decode cX6_init 37 = .ok (.iload_n 2, 1) := by decide +kernel
theorem dX6_init_38 : decode cX6_init 38 = .ok (.bipush 6, 2) := by decide +kernel
theorem dX6_init_40 : decode cX6_init 40 = .ok (.if_icmp .ge 22, 3) := by decide +kernel
theorem dX6_init_43 : decode cX6_init 43 = .ok (.aload_n 0, 1) := by decide +kernel
theorem dX6_init_44 : decode cX6_init 44 = .ok (.getfield 11, 3) := by decide +kernel
theorem dX6_init_47 : decode cX6_init 47 = .ok (.iload_n 2, 1) := by decide +kernel
theorem dX6_init_48 : decode cX6_init 48 = .ok (.new 9, 3) := by decide +kernel
theorem dX6_init_51 : decode cX6_init 51 = .ok (.dup, 1) := by decide +kernel
theorem dX6_init_52 : decode cX6_init 52 = .ok (.invokespecial 31, 3) := by decide +kernel
theorem dX6_init_55 : decode cX6_init 55 = .ok (.aastore, 1) := by decide +kernel
theorem dX6_init_56 : decode cX6_init 56 = .ok (.iinc 2 1, 3) := by decide +kernel
theorem dX6_init_59 : decode cX6_init 59 = .ok (.goto (-22), 3) := by decide +kernel
theorem dX6_init_62 : decode cX6_init 62 = .ok (.iconst 0, 1) := by decide +kernel
theorem dX6_init_63 : decode cX6_init 63 = .ok (.istore_n 2, 1) := by decide +kernel
theorem dX6_init_64 : decode cX6_init 64 = .ok (.iload_n 2, 1) := by decide +kernel
theorem dX6_init_65 : decode cX6_init 65 = .ok (.bipush 12, 2) := by decide +kernel
theorem dX6_init_67 : decode cX6_init 67 = .ok (.if_icmp .ge 22, 3) := by decide +kernel
theorem dX6_init_70 : decode cX6_init 70 = .ok (.aload_n 0, 1) := by decide +kernel
theorem dX6_init_71 : decode cX6_init 71 = .ok (.getfield 19, 3) := by decide +kernel
theorem dX6_init_74 : decode cX6_init 74 = .ok (.iload_n 2, 1) := by decide +kernel
theorem dX6_init_75 : decode cX6_init 75 = .ok (.new 17, 3) := by decide +kernel
theorem dX6_init_78 : decode cX6_init 78 = .ok (.dup, 1) := by decide +kernel
theorem dX6_init_79 : decode cX6_init 79 = .ok (.invokespecial 32, 3) := by decide +kernel
theorem dX6_init_82 : decode cX6_init 82 = .ok (.aastore, 1) := by decide +kernel
theorem dX6_init_83 : decode cX6_init 83 = .ok (.iinc 2 1, 3) := by decide +kernel
theorem dX6_init_86 : decode cX6_init 86 = .ok (.goto (-22), 3) := by decide +kernel
theorem dX6_init_89 : decode cX6_init 89 = .ok (.return_, 1) := by decide +kernel
theorem dX6_copyFrom_0 : decode cX6_copyFrom 0 = .ok (.aload_n 0, 1) := by decide +kernel
theorem dX6_copyFrom_1 : decode cX6_copyFrom 1 = .ok (.aload_n 1, 1) := by decide +kernel
theorem dX6_copyFrom_2 : decode cX6_copyFrom 2 = .ok (.getfield 33, 3) := by decide +kernel
theorem dX6_copyFrom_5 : decode cX6_copyFrom 5 = .ok (.putfield 33, 3) := by decide +kernel
theorem dX6_copyFrom_8 : decode cX6_copyFrom 8 = .ok (.iconst 0, 1) := by decide +kernel
theorem dX6_copyFrom_9 : decode cX6_copyFrom 9 = .ok (.istore_n 2, 1) := by decide +kernel
theorem dX6_copyFrom_10 : decode cX6_copyFrom 10 = .ok (.iload_n 2, 1) := by decide +kernel
theorem dX6_copyFrom_11 : decode cX6_copyFrom 11 = .ok (.aload_n 0, 1) := by decide +kernel
theorem dX6_copyFrom_12 : decode cX6_copyFrom 12 = .ok (.getfield 33, 3) := by decide +kernel
theorem dX6_copyFrom_15 : decode cX6_copyFrom 15 = .ok (.if_icmp .ge 24, 3) := by decide +kernel
theorem dX6_copyFrom_18 : decode cX6_copyFrom 18 = .ok (.aload_n 0, 1) := by decide +kernel
theorem dX6_copyFrom_19 : decode cX6_copyFrom 19 = .ok (.getfield 11, 3) := by decide +kernel
theorem dX6_copyFrom_22 : decode cX6_copyFrom 22 = .ok (.iload_n 2, 1) := by decide +kernel
theorem dX6_copyFrom_23 : decode cX6_copyFrom 23 = .ok (.aaload, 1) := by decide +kernel
theorem dX6_copyFrom_24 : decode cX6_copyFrom 24 = .ok (.aload_n 1, 1) := by decide +kernel
theorem dX6_copyFrom_25 : decode cX6_copyFrom 25 = .ok (.getfield 11, 3) := by decide +kernel
theorem dX6_copyFrom_28 : decode cX6_copyFrom 28 = .ok (.iload_n 2, 1) := by decide +kernel
theorem dX6_copyFrom_29 : decode cX6_copyFrom 29 = .ok (.aaload, 1) := by decide +kernel
theorem dX6_copyFrom_30 : decode cX6_copyFrom 30 = .ok (.invokevirtual 37, 3) := by decide +kernel
theorem dX6_copyFrom_33 : decode cX6_copyFrom 33 = .ok (.iinc 2 1, 3) := by decide +kernel
theorem dX6_copyFrom_36 : decode cX6_copyFrom 36 = .ok (.goto (-26), 3) := by decide +kernel
theorem dX6_copyFrom_39 : decode cX6_copyFrom 39 = .ok (.aload_n 0, 1) := by decide +kernel
theorem dX6_copyFrom_40 : decode cX6_copyFrom 40 = .ok (.aload_n 1, 1) := by decide +kernel
theorem dX6_copyFrom_41 : decode cX6_copyFrom 41 = .ok (.getfield 41, 3) := by decide +kernel
theorem dX6_copyFrom_44 : decode cX6_copyFrom 44 = .ok (.putfield 41, 3) := by decide +kernel
theorem dX6_copyFrom_47 : decode cX6_copyFrom 47 = .ok (.iconst 0, 1) := by decide +kernel
theorem dX6_copyFrom_48 : decode cX6_copyFrom 48 = .ok (.istore_n 2, 1) := by decide +kernel
theorem dX6_copyFrom_49 : decode cX6_copyFrom 49 = .ok (.iload_n 2, 1) := by decide +kernel
theorem dX6_copyFrom_50 : decode cX6_copyFrom 50 = .ok (.aload_n 0, 1) := by decide +kernel
theorem dX6_copyFrom_51 : decode cX6_copyFrom 51 = .ok (.getfield 41, 3) := by decide +kernel
theorem dX6_copyFrom_54 : decode cX6_copyFrom 54 = .ok (.if_icmp .ge 24, 3) := by decide +kernel
theorem dX6_copyFrom_57 : decode cX6_copyFrom 57 = .ok (.aload_n 0, 1) := by decide +kernel
theorem dX6_copyFrom_58 : decode cX6_copyFrom 58 = .ok (.getfield 19, 3) := by decide +kernel
theorem dX6_copyFrom_61 : decode cX6_copyFrom 61 = .ok (.iload_n 2, 1) := by decide +kernel
theorem dX6_copyFrom_62 : decode cX6_copyFrom 62 = .ok (.aaload, 1) := by decide +kernel
theorem dX6_copyFrom_63 : decode cX6_copyFrom 63 = .ok (.aload_n 1, 1) := by decide +kernel
theorem dX6_copyFrom_64 : decode cX6_copyFrom 64 = .ok (.getfield 19, 3) := by decide +kernel
theorem dX6_copyFrom_67 : decode cX6_copyFrom 67 = .ok (.iload_n 2, 1) := by decide +kernel
theorem dX6_copyFrom_68 : decode cX6_copyFrom 68 = .ok (.aaload, 1) := by decide +kernel
theorem dX6_copyFrom_69 : decode cX6_copyFrom 69 = .ok (.invokevirtual 44, 3) := by decide +kernel
theorem dX6_copyFrom_72 : decode cX6_copyFrom 72 = .ok (.iinc 2 1, 3) := by decide +kernel
theorem dX6_copyFrom_75 : decode cX6_copyFrom 75 = .ok (.goto (-26), 3) := by decide +kernel
theorem dX6_copyFrom_78 : decode cX6_copyFrom 78 = .ok (.aload_n 1, 1) := by decide +kernel
theorem dX6_copyFrom_79 : decode cX6_copyFrom 79 = .ok (.getfield 23, 3) := by decide +kernel
theorem dX6_copyFrom_82 : decode cX6_copyFrom 82 = .ok (.iconst 0, 1) := by decide +kernel
theorem dX6_copyFrom_83 : decode cX6_copyFrom 83 = .ok (.aload_n 0, 1) := by decide +kernel
theorem dX6_copyFrom_84 : decode cX6_copyFrom 84 = .ok (.getfield 23, 3) := by decide +kernel
theorem dX6_copyFrom_87 : decode cX6_copyFrom 87 = .ok (.iconst 0, 1) := by decide +kernel
theorem dX6_copyFrom_88 : decode cX6_copyFrom 88 = .ok (.bipush 25, 2) := by decide +kernel
theorem dX6_copyFrom_90 : decode cX6_copyFrom 90 = .ok (.invokestatic 47, 3) := by decide +kernel
theorem dX6_copyFrom_93 : decode cX6_copyFrom 93 = .ok (.aload_n 0, 1) := by decide +kernel
theorem dX6_copyFrom_94 : decode cX6_copyFrom 94 = .ok (.aload_n 1, 1) := by decide +kernel
theorem dX6_copyFrom_95 : decode cX6_copyFrom 95 = .ok (.getfield 53, 3) := by decide +kernel
theorem dX6_copyFrom_98 : decode cX6_copyFrom 98 = .ok (.putfield 53, 3) := by decide +kernel
theorem dX6_copyFrom_101 : decode cX6_copyFrom 101 = .ok (.aload_n 0, 1) := by decide +kernel
theorem dX6_copyFrom_102 : decode cX6_copyFrom 102 = .ok (.aload_n 1, 1) := by decide +kernel
theorem dX6_copyFrom_103 : decode cX6_copyFrom 103 = .ok (.getfield 56, 3) := by decide +kernel
theorem dX6_copyFrom_106 : decode cX6_copyFrom 106 = .ok (.putfield 56, 3) := by decide +kernel
theorem dX6_copyFrom_109 : decode cX6_copyFrom 109 = .ok (.aload_n 0, 1) := by decide +kernel
theorem dX6_copyFrom_110 : decode cX6_copyFrom 110 = .ok (.aload_n 1, 1) := by decide +kernel
theorem dX6_copyFrom_111 : decode cX6_copyFrom 111 = .ok (.getfield 59, 3) := by decide +kernel
theorem dX6_copyFrom_114 : decode cX6_copyFrom 114 = .ok (.putfield 59, 3) := by decide +kernel
theorem dX6_copyFrom_117 : decode cX6_copyFrom 117 = .ok (.return_, 1) := by decide +kernel
theorem dX6_isCraft_0 : decode cX6_isCraft 0 = .ok (.iload_n 1, 1) := by decide +kernel
theorem dX6_isCraft_1 : decode cX6_isCraft 1 = .ok (.ifCond .lt 15, 3) := by decide +kernel
theorem dX6_isCraft_4 : decode cX6_isCraft 4 = .ok (.iload_n 1, 1) := by decide +kernel
theorem dX6_isCraft_5 : decode cX6_isCraft 5 = .ok (.aload_n 0, 1) := by decide +kernel
theorem dX6_isCraft_6 : decode cX6_isCraft 6 = .ok (.getfield 33, 3) := by decide +kernel
theorem dX6_isCraft_9 : decode cX6_isCraft 9 = .ok (.if_icmp .ge 7, 3) := by decide +kernel
theorem dX6_isCraft_12 : decode cX6_isCraft 12 = .ok (.iconst 1, 1) := by decide +kernel
theorem dX6_isCraft_13 : decode cX6_isCraft 13 = .ok (.goto 4, 3) := by decide +kernel
theorem dX6_isCraft_16 : decode cX6_isCraft 16 = .ok (.iconst 0, 1) := by decide +kernel
theorem dX6_isCraft_17 : decode cX6_isCraft 17 = .ok (.ireturn, 1) := by decide +kernel
theorem dX6_play_0 : decode cX6_play 0 = .ok (.iconst 0, 1) := by decide +kernel
theorem dX6_play_1 : decode cX6_play 1 = .ok (.istore_n 2, 1) := by decide +kernel
theorem dX6_play_2 : decode cX6_play 2 = .ok (.iload_n 2, 1) := by decide +kernel
theorem dX6_play_3 : decode cX6_play 3 = .ok (.iload_n 1, 1) := by decide +kernel
theorem dX6_play_4 : decode cX6_play 4 = .ok (.if_icmp .ge 137, 3) := by decide +kernel
theorem dX6_play_7 : decode cX6_play 7 = .ok (.aload_n 0, 1) := by decide +kernel
theorem dX6_play_8 : decode cX6_play 8 = .ok (.dup, 1) := by decide +kernel
theorem dX6_play_9 : decode cX6_play 9 = .ok (.getfield 59, 3) := by decide +kernel
theorem dX6_play_12 : decode cX6_play 12 = .ok (.iconst 1, 1) := by decide +kernel
theorem dX6_play_13 : decode cX6_play 13 = .ok (.iadd, 1) := by decide +kernel
theorem dX6_play_14 : decode cX6_play 14 = .ok (.putfield 59, 3) := by decide +kernel
theorem dX6_play_17 : decode cX6_play 17 = .ok (.aload_n 0, 1) := by decide +kernel
theorem dX6_play_18 : decode cX6_play 18 = .ok (.getfield 59, 3) := by decide +kernel
theorem dX6_play_21 : decode cX6_play 21 = .ok (.sipush 1440, 3) := by decide +kernel
theorem dX6_play_24 : decode cX6_play 24 = .ok (.irem, 1) := by decide +kernel
theorem dX6_play_25 : decode cX6_play 25 = .ok (.ifCond .ne 11, 3) := by decide +kernel
theorem dX6_play_28 : decode cX6_play 28 = .ok (.aload_n 0, 1) := by decide +kernel
theorem dX6_play_29 : decode cX6_play 29 = .ok (.getfield 23, 3) := by decide +kernel
theorem dX6_play_32 : decode cX6_play 32 = .ok (.iconst 0, 1) := by decide +kernel
theorem dX6_play_33 : decode cX6_play 33 = .ok (.invokestatic 62, 3) := by decide +kernel
theorem dX6_play_36 : decode cX6_play 36 = .ok (.iconst 0, 1) := by decide +kernel
theorem dX6_play_37 : decode cX6_play 37 = .ok (.istore_n 3, 1) := by decide +kernel
theorem dX6_play_38 : decode cX6_play 38 = .ok (.iload_n 3, 1) := by decide +kernel
theorem dX6_play_39 : decode cX6_play 39 = .ok (.aload_n 0, 1) := by decide +kernel
theorem dX6_play_40 : decode cX6_play 40 = .ok (.getfield 41, 3) := by decide +kernel
theorem dX6_play_43 : decode cX6_play 43 = .ok (.if_icmp .ge 14, 3) := by decide +kernel
theorem dX6_play_46 : decode cX6_play 46 = .ok (.aload_n 0, 1) := by decide +kernel
theorem dX6_play_47 : decode cX6_play 47 = .ok (.iload_n 3, 1) := by decide +kernel
theorem dX6_play_48 : decode cX6_play 48 = .ok (.invokevirtual 68, 3) := by decide +kernel
theorem dX6_play_51 : decode cX6_play 51 = .ok (.iinc 3 1, 3) := by decide +kernel
theorem dX6_play_54 : decode cX6_play 54 = .ok (.goto (-16), 3) := by decide +kernel
theorem dX6_play_57 : decode cX6_play 57 = .ok (.iconst 0, 1) := by decide +kernel
theorem dX6_play_58 : decode cX6_play 58 = .ok (.istore_n 3, 1) := by decide +kernel
theorem dX6_play_59 : decode cX6_play 59 = .ok (.iload_n 3, 1) := by decide +kernel
theorem dX6_play_60 : decode cX6_play 60 = .ok (.aload_n 0, 1) := by decide +kernel
theorem dX6_play_61 : decode cX6_play 61 = .ok (.getfield 33, 3) := by decide +kernel
theorem dX6_play_64 : decode cX6_play 64 = .ok (.if_icmp .ge 32, 3) := by decide +kernel
theorem dX6_play_67 : decode cX6_play 67 = .ok (.aload_n 0, 1) := by decide +kernel
theorem dX6_play_68 : decode cX6_play 68 = .ok (.aload_n 0, 1) := by decide +kernel
theorem dX6_play_69 : decode cX6_play 69 = .ok (.getfield 11, 3) := by decide +kernel
theorem dX6_play_72 : decode cX6_play 72 = .ok (.iload_n 3, 1) := by decide +kernel
theorem dX6_play_73 : decode cX6_play 73 = .ok (.aaload, 1) := by decide +kernel
theorem dX6_play_74 : decode cX6_play 74 = .ok (.invokevirtual 72, 3) := by decide +kernel
theorem dX6_play_77 : decode cX6_play 77 = .ok (.ifCond .eq 13, 3) := by decide +kernel
theorem dX6_play_80 : decode cX6_play 80 = .ok (.aload_n 0, 1) := by decide +kernel
theorem dX6_play_81 : decode cX6_play 81 = .ok (.aload_n 0, 1) := by decide +kernel
theorem dX6_play_82 : decode cX6_play 82 = .ok (.getfield 11, 3) := by decide +kernel
theorem dX6_play_85 : decode cX6_play 85 = .ok (.iload_n 3, 1) := by decide +kernel
theorem dX6_play_86 : decode cX6_play 86 = .ok (.aaload, 1) := by decide +kernel
theorem dX6_play_87 : decode cX6_play 87 = .ok (.invokevirtual 76, 3) := by decide +kernel
theorem dX6_play_90 : decode cX6_play 90 = .ok (.iinc 3 1, 3) := by decide +kernel
theorem dX6_play_93 : decode cX6_play 93 = .ok (.goto (-34), 3) := by decide +kernel
theorem dX6_play_96 : decode cX6_play 96 = .ok (.aload_n 0, 1) := by decide +kernel
theorem dX6_play_97 : decode cX6_play 97 = .ok (.dup, 1) := by decide +kernel
theorem dX6_play_98 : decode cX6_play 98 = .ok (.getfield 56, 3) := by decide +kernel
theorem dX6_play_101 : decode cX6_play 101 = .ok (.aload_n 0, 1) := by decide +kernel
theorem dX6_play_102 : decode cX6_play 102 = .ok (.invokevirtual 79, 3) := by decide +kernel
theorem dX6_play_105 : decode cX6_play 105 = .ok (.iadd, 1) := by decide +kernel
theorem dX6_play_106 : decode cX6_play 106 = .ok (.putfield 56, 3) := by decide +kernel
theorem dX6_play_109 : decode cX6_play 109 = .ok (.iconst 0, 1) := by decide +kernel
theorem dX6_play_110 : decode cX6_play 110 = .ok (.istore_n 3, 1) := by decide +kernel
theorem dX6_play_111 : decode cX6_play 111 = .ok (.iload_n 3, 1) := by decide +kernel
theorem dX6_play_112 : decode cX6_play 112 = .ok (.aload_n 0, 1) := by decide +kernel
theorem dX6_play_113 : decode cX6_play 113 = .ok (.getfield 33, 3) := by decide +kernel
theorem dX6_play_116 : decode cX6_play 116 = .ok (.if_icmp .ge 19, 3) := by decide +kernel
theorem dX6_play_119 : decode cX6_play 119 = .ok (.aload_n 0, 1) := by decide +kernel
theorem dX6_play_120 : decode cX6_play 120 = .ok (.aload_n 0, 1) := by decide +kernel
theorem dX6_play_121 : decode cX6_play 121 = .ok (.getfield 11, 3) := by decide +kernel
theorem dX6_play_124 : decode cX6_play 124 = .ok (.iload_n 3, 1) := by decide +kernel
theorem dX6_play_125 : decode cX6_play 125 = .ok (.aaload, 1) := by decide +kernel
theorem dX6_play_126 : decode cX6_play 126 = .ok (.invokevirtual 83, 3) := by decide +kernel
theorem dX6_play_129 : decode cX6_play 129 = .ok (.iinc 3 1, 3) := by decide +kernel
theorem dX6_play_132 : decode cX6_play 132 = .ok (.goto (-21), 3) := by decide +kernel
theorem dX6_play_135 : decode cX6_play 135 = .ok (.iinc 2 1, 3) := by decide +kernel
theorem dX6_play_138 : decode cX6_play 138 = .ok (.goto (-136), 3) := by decide +kernel
theorem dX6_play_141 : decode cX6_play 141 = .ok (.return_, 1) := by decide +kernel
theorem dX6_startOrMissIfDue_0 : decode cX6_startOrMissIfDue 0 = .ok (.aload_n 0, 1) := by decide +kernel
theorem dX6_startOrMissIfDue_1 : decode cX6_startOrMissIfDue 1 = .ok (.getfield 19, 3) := by decide +kernel
theorem dX6_startOrMissIfDue_4 : decode cX6_startOrMissIfDue 4 = .ok (.iload_n 1, 1) := by decide +kernel
theorem dX6_startOrMissIfDue_5 : decode cX6_startOrMissIfDue 5 = .ok (.aaload, 1) := by decide +kernel
theorem dX6_startOrMissIfDue_6 : decode cX6_startOrMissIfDue 6 = .ok (.astore_n 2, 1) := by decide +kernel
theorem dX6_startOrMissIfDue_7 : decode cX6_startOrMissIfDue 7 = .ok (.aload_n 2, 1) := by decide +kernel
theorem dX6_startOrMissIfDue_8 : decode cX6_startOrMissIfDue 8 = .ok (.getfield 86, 3) := by decide +kernel
theorem dX6_startOrMissIfDue_11 : decode cX6_startOrMissIfDue 11 = .ok (.ifCond .ne 25, 3) := by decide +kernel
theorem dX6_startOrMissIfDue_14 : decode cX6_startOrMissIfDue 14 = .ok (.aload_n 2, 1) := by decide +kernel
theorem dX6_startOrMissIfDue_15 : decode cX6_startOrMissIfDue 15 = .ok (.getfield 89, 3) := by decide +kernel
theorem dX6_startOrMissIfDue_18 : decode cX6_startOrMissIfDue 18 = .ok (.aload_n 0, 1) := by decide +kernel
theorem dX6_startOrMissIfDue_19 : decode cX6_startOrMissIfDue 19 = .ok (.getfield 59, 3) := by decide +kernel
theorem dX6_startOrMissIfDue_22 : decode cX6_startOrMissIfDue 22 = .ok (.if_icmp .ne 14, 3) := by decide +kernel
theorem dX6_startOrMissIfDue_25 : decode cX6_startOrMissIfDue 25 = .ok (.aload_n 0, 1) := by decide +kernel
theorem dX6_startOrMissIfDue_26 : decode cX6_startOrMissIfDue 26 = .ok (.aload_n 2, 1) := by decide +kernel
theorem dX6_startOrMissIfDue_27 : decode cX6_startOrMissIfDue 27 = .ok (.getfield 92, 3) := by decide +kernel
theorem dX6_startOrMissIfDue_30 : decode cX6_startOrMissIfDue 30 = .ok (.invokevirtual 95, 3) := by decide +kernel
theorem dX6_startOrMissIfDue_33 : decode cX6_startOrMissIfDue 33 = .ok (.ifCond .ne 4, 3) := by decide +kernel
theorem dX6_startOrMissIfDue_36 : decode cX6_startOrMissIfDue 36 = .ok (.return_, 1) := by decide +kernel
theorem dX6_startOrMissIfDue_37 : decode cX6_startOrMissIfDue 37 = .ok (.aload_n 0, 1) := by decide +kernel
theorem dX6_startOrMissIfDue_38 : decode cX6_startOrMissIfDue 38 = .ok (.getfield 11, 3) := by decide +kernel
theorem dX6_startOrMissIfDue_41 : decode cX6_startOrMissIfDue 41 = .ok (.aload_n 2, 1) := by decide +kernel
theorem dX6_startOrMissIfDue_42 : decode cX6_startOrMissIfDue 42 = .ok (.getfield 92, 3) := by decide +kernel
theorem dX6_startOrMissIfDue_45 : decode cX6_startOrMissIfDue 45 = .ok (.aaload, 1) := by decide +kernel
theorem dX6_startOrMissIfDue_46 : decode cX6_startOrMissIfDue 46 = .ok (.astore_n 3, 1) := by decide +kernel
theorem dX6_startOrMissIfDue_47 : decode cX6_startOrMissIfDue 47 = .ok (.aload_n 3, 1) := by decide +kernel
theorem dX6_startOrMissIfDue_48 : decode cX6_startOrMissIfDue 48 = .ok (.getfield 99, 3) := by decide +kernel
theorem dX6_startOrMissIfDue_51 : decode cX6_startOrMissIfDue 51 = .ok (.ifCond .ne 21, 3) := by decide +kernel
theorem dX6_startOrMissIfDue_54 : decode cX6_startOrMissIfDue 54 = .ok (.aload_n 3, 1) := by decide +kernel
theorem dX6_startOrMissIfDue_55 : decode cX6_startOrMissIfDue 55 = .ok (.getfield 100, 3) := by decide +kernel
theorem dX6_startOrMissIfDue_58 : decode cX6_startOrMissIfDue 58 = .ok (.aload_n 2, 1) := by decide +kernel
theorem dX6_startOrMissIfDue_59 : decode cX6_startOrMissIfDue 59 = .ok (.getfield 103, 3) := by decide +kernel
theorem dX6_startOrMissIfDue_62 : decode cX6_startOrMissIfDue 62 = .ok (.invokevirtual 107, 3) := by decide +kernel
theorem dX6_startOrMissIfDue_65 : decode cX6_startOrMissIfDue 65 = .ok (.if_icmp .ne 7, 3) := by decide +kernel
theorem dX6_startOrMissIfDue_68 : decode cX6_startOrMissIfDue 68 = .ok (.iconst 1, 1) := by decide +kernel
theorem dX6_startOrMissIfDue_69 : decode cX6_startOrMissIfDue 69 = .ok (.goto 4, 3) := by decide +kernel
theorem dX6_startOrMissIfDue_72 : decode cX6_startOrMissIfDue 72 = .ok (.iconst 0, 1) := by decide +kernel
theorem dX6_startOrMissIfDue_73 : decode cX6_startOrMissIfDue 73 = .ok (.istore 4, 2) := by decide +kernel
theorem dX6_startOrMissIfDue_75 : decode cX6_startOrMissIfDue 75 = .ok (.iload 4, 2) := by decide +kernel
theorem dX6_startOrMissIfDue_77 : decode cX6_startOrMissIfDue 77 = .ok (.ifCond .eq 18, 3) := by decide +kernel
theorem dX6_startOrMissIfDue_80 : decode cX6_startOrMissIfDue 80 = .ok (.aload_n 3, 1) := by decide +kernel
theorem dX6_startOrMissIfDue_81 : decode cX6_startOrMissIfDue 81 = .ok (.getfield 112, 3) := by decide +kernel
theorem dX6_startOrMissIfDue_84 : decode cX6_startOrMissIfDue 84 = .ok (.iconst 2, 1) := by decide +kernel
theorem dX6_startOrMissIfDue_85 : decode cX6_startOrMissIfDue 85 = .ok (.if_icmp .lt 10, 3) := by decide +kernel
theorem dX6_startOrMissIfDue_88 : decode cX6_startOrMissIfDue 88 = .ok (.aload_n 3, 1) := by decide +kernel
theorem dX6_startOrMissIfDue_89 : decode cX6_startOrMissIfDue 89 = .ok (.getfield 115, 3) := by decide +kernel
theorem dX6_startOrMissIfDue_92 : decode cX6_startOrMissIfDue 92 = .ok (.ifCond .ne 9, 3) := by decide +kernel
theorem dX6_startOrMissIfDue_95 : decode cX6_startOrMissIfDue 95 = .ok (.aload_n 2, 1) := by decide +kernel
theorem dX6_startOrMissIfDue_96 : decode cX6_startOrMissIfDue 96 = .ok (.iconst 4, 1) := by decide +kernel
theorem dX6_startOrMissIfDue_97 : decode cX6_startOrMissIfDue 97 = .ok (.putfield 86, 3) := by decide +kernel
theorem dX6_startOrMissIfDue_100 : decode cX6_startOrMissIfDue 100 = .ok (.return_, 1) := by decide +kernel
theorem dX6_startOrMissIfDue_101 : decode cX6_startOrMissIfDue 101 = .ok (.aload_n 2, 1) := by decide +kernel
theorem dX6_startOrMissIfDue_102 : decode cX6_startOrMissIfDue 102 = .ok (.iconst 1, 1) := by decide +kernel
theorem dX6_startOrMissIfDue_103 : decode cX6_startOrMissIfDue 103 = .ok (.putfield 86, 3) := by decide +kernel
theorem dX6_startOrMissIfDue_106 : decode cX6_startOrMissIfDue 106 = .ok (.aload_n 3, 1) := by decide +kernel
theorem dX6_startOrMissIfDue_107 : decode cX6_startOrMissIfDue 107 = .ok (.iconst 1, 1) := by decide +kernel
theorem dX6_startOrMissIfDue_108 : decode cX6_startOrMissIfDue 108 = .ok (.putfield 99, 3) := by decide +kernel
theorem dX6_startOrMissIfDue_111 : decode cX6_startOrMissIfDue 111 = .ok (.aload_n 3, 1) := by decide +kernel
theorem dX6_startOrMissIfDue_112 : decode cX6_startOrMissIfDue 112 = .ok (.iload_n 1, 1) := by decide +kernel
theorem dX6_startOrMissIfDue_113 : decode cX6_startOrMissIfDue 113 = .ok (.putfield 119, 3) := by decide +kernel
theorem dX6_startOrMissIfDue_116 : decode cX6_startOrMissIfDue 116 = .ok (.aload_n 3, 1) := by decide +kernel
theorem dX6_startOrMissIfDue_117 : decode cX6_startOrMissIfDue 117 = .ok (.dup, 1) := by decide +kernel
theorem dX6_startOrMissIfDue_118 : decode cX6_startOrMissIfDue 118 = .ok (.getfield 112, 3) := by decide +kernel
theorem dX6_startOrMissIfDue_121 : decode cX6_startOrMissIfDue 121 = .ok (.iconst 2, 1) := by decide +kernel
theorem dX6_startOrMissIfDue_122 : decode cX6_startOrMissIfDue 122 = .ok (.isub, 1) := by decide +kernel
theorem dX6_startOrMissIfDue_123 : decode cX6_startOrMissIfDue 123 = .ok (.putfield 112, 3) := by decide +kernel
theorem dX6_startOrMissIfDue_126 : decode cX6_startOrMissIfDue 126 = .ok (.aload_n 0, 1) := by decide +kernel
theorem dX6_startOrMissIfDue_127 : decode cX6_startOrMissIfDue 127 = .ok (.aload_n 3, 1) := by decide +kernel
theorem dX6_startOrMissIfDue_128 : decode cX6_startOrMissIfDue 128 = .ok (.invokevirtual 122, 3) := by decide +kernel
theorem dX6_startOrMissIfDue_131 : decode cX6_startOrMissIfDue 131 = .ok (.return_, 1) := by decide +kernel
theorem dX6_isToMove_0 : decode cX6_isToMove 0 = .ok (.aload_n 1, 1) := by decide +kernel
theorem dX6_isToMove_1 : decode cX6_isToMove 1 = .ok (.getfield 99, 3) := by decide +kernel
theorem dX6_isToMove_4 : decode cX6_isToMove 4 = .ok (.iconst 1, 1) := by decide +kernel
theorem dX6_isToMove_5 : decode cX6_isToMove 5 = .ok (.if_icmp .ne 21, 3) := by decide +kernel
theorem dX6_isToMove_8 : decode cX6_isToMove 8 = .ok (.aload_n 1, 1) := by decide +kernel
theorem dX6_isToMove_9 : decode cX6_isToMove 9 = .ok (.getfield 119, 3) := by decide +kernel
theorem dX6_isToMove_12 : decode cX6_isToMove 12 = .ok (.ifCond .lt 14, 3) := by decide +kernel
theorem dX6_isToMove_15 : decode cX6_isToMove 15 = .ok (.aload_n 1, 1) := by decide +kernel
theorem dX6_isToMove_16 : decode cX6_isToMove 16 = .ok (.getfield 119, 3) := by decide +kernel
theorem dX6_isToMove_19 : decode cX6_isToMove 19 = .ok (.aload_n 0, 1) := by decide +kernel
theorem dX6_isToMove_20 : decode cX6_isToMove 20 = .ok (.getfield 41, 3) := by decide +kernel
theorem dX6_isToMove_23 : decode cX6_isToMove 23 = .ok (.if_icmp .lt 5, 3) := by decide +kernel
theorem dX6_isToMove_26 : decode cX6_isToMove 26 = .ok (.iconst 0, 1) := by decide +kernel
theorem dX6_isToMove_27 : decode cX6_isToMove 27 = .ok (.ireturn, 1) := by decide +kernel
theorem dX6_isToMove_28 : decode cX6_isToMove 28 = .ok (.aload_n 0, 1) := by decide +kernel
theorem dX6_isToMove_29 : decode cX6_isToMove 29 = .ok (.getfield 59, 3) := by decide +kernel
theorem dX6_isToMove_32 : decode cX6_isToMove 32 = .ok (.aload_n 0, 1) := by decide +kernel
theorem dX6_isToMove_33 : decode cX6_isToMove 33 = .ok (.getfield 19, 3) := by decide +kernel
theorem dX6_isToMove_36 : decode cX6_isToMove 36 = .ok (.aload_n 1, 1) := by decide +kernel
theorem dX6_isToMove_37 : decode cX6_isToMove 37 = .ok (.getfield 119, 3) := by decide +kernel
theorem dX6_isToMove_40 : decode cX6_isToMove 40 = .ok (.aaload, 1) := by decide +kernel
theorem dX6_isToMove_41 : decode cX6_isToMove 41 = .ok (.getfield 89, 3) := by decide +kernel
theorem dX6_isToMove_44 : decode cX6_isToMove 44 = .ok (.isub, 1) := by decide +kernel
theorem dX6_isToMove_45 : decode cX6_isToMove 45 = .ok (.istore_n 2, 1) := by decide +kernel
theorem dX6_isToMove_46 : decode cX6_isToMove 46 = .ok (.iload_n 2, 1) := by decide +kernel
theorem dX6_isToMove_47 : decode cX6_isToMove 47 = .ok (.iconst 2, 1) := by decide +kernel
theorem dX6_isToMove_48 : decode cX6_isToMove 48 = .ok (.if_icmp .lt 13, 3) := by decide +kernel
theorem dX6_isToMove_51 : decode cX6_isToMove 51 = .ok (.iload_n 2, 1) := by decide +kernel
theorem dX6_isToMove_52 : decode cX6_isToMove 52 = .ok (.iconst 2, 1) := by decide +kernel
theorem dX6_isToMove_53 : decode cX6_isToMove 53 = .ok (.irem, 1) := by decide +kernel
theorem dX6_isToMove_54 : decode cX6_isToMove 54 = .ok (.ifCond .ne 7, 3) := by decide +kernel
theorem dX6_isToMove_57 : decode cX6_isToMove 57 = .ok (.iconst 1, 1) := by decide +kernel
theorem dX6_isToMove_58 : decode cX6_isToMove 58 = .ok (.goto 4, 3) := by decide +kernel
theorem dX6_isToMove_61 : decode cX6_isToMove 61 = .ok (.iconst 0, 1) := by decide +kernel
theorem dX6_isToMove_62 : decode cX6_isToMove 62 = .ok (.ireturn, 1) := by decide +kernel
theorem dX6_move_0 : decode cX6_move 0 = .ok (.aload_n 0, 1) := by decide +kernel
theorem dX6_move_1 : decode cX6_move 1 = .ok (.getfield 19, 3) := by decide +kernel
theorem dX6_move_4 : decode cX6_move 4 = .ok (.aload_n 1, 1) := by decide +kernel
theorem dX6_move_5 : decode cX6_move 5 = .ok (.getfield 119, 3) := by decide +kernel
theorem dX6_move_8 : decode cX6_move 8 = .ok (.aaload, 1) := by decide +kernel
theorem dX6_move_9 : decode cX6_move 9 = .ok (.astore_n 2, 1) := by decide +kernel
theorem dX6_move_10 : decode cX6_move 10 = .ok (.aload_n 2, 1) := by decide +kernel
theorem dX6_move_11 : decode cX6_move 11 = .ok (.getfield 86, 3) := by decide +kernel
theorem dX6_move_14 : decode cX6_move 14 = .ok (.iconst 1, 1) := by decide +kernel
theorem dX6_move_15 : decode cX6_move 15 = .ok (.if_icmp .ne 15, 3) := by decide +kernel
theorem dX6_move_18 : decode cX6_move 18 = .ok (.aload_n 1, 1) := by decide +kernel
theorem dX6_move_19 : decode cX6_move 19 = .ok (.getfield 115, 3) := by decide +kernel
theorem dX6_move_22 : decode cX6_move 22 = .ok (.ifCond .ne 8, 3) := by decide +kernel
theorem dX6_move_25 : decode cX6_move 25 = .ok (.aload_n 2, 1) := by decide +kernel
theorem dX6_move_26 : decode cX6_move 26 = .ok (.iconst 5, 1) := by decide +kernel
theorem dX6_move_27 : decode cX6_move 27 = .ok (.putfield 86, 3) := by decide +kernel
theorem dX6_move_30 : decode cX6_move 30 = .ok (.aload_n 2, 1) := by decide +kernel
theorem dX6_move_31 : decode cX6_move 31 = .ok (.getfield 86, 3) := by decide +kernel
theorem dX6_move_34 : decode cX6_move 34 = .ok (.iconst 5, 1) := by decide +kernel
theorem dX6_move_35 : decode cX6_move 35 = .ok (.if_icmp .ne 7, 3) := by decide +kernel
theorem dX6_move_38 : decode cX6_move 38 = .ok (.iconst 1, 1) := by decide +kernel
theorem dX6_move_39 : decode cX6_move 39 = .ok (.goto 4, 3) := by decide +kernel
theorem dX6_move_42 : decode cX6_move 42 = .ok (.iconst 0, 1) := by decide +kernel
theorem dX6_move_43 : decode cX6_move 43 = .ok (.istore_n 3, 1) := by decide +kernel
theorem dX6_move_44 : decode cX6_move 44 = .ok (.aload_n 0, 1) := by decide +kernel
theorem dX6_move_45 : decode cX6_move 45 = .ok (.getfield 59, 3) := by decide +kernel
theorem dX6_move_48 : decode cX6_move 48 = .ok (.aload_n 2, 1) := by decide +kernel
theorem dX6_move_49 : decode cX6_move 49 = .ok (.getfield 89, 3) := by decide +kernel
theorem dX6_move_52 : decode cX6_move 52 = .ok (.isub, 1) := by decide +kernel
theorem dX6_move_53 : decode cX6_move 53 = .ok (.iconst 2, 1) := by decide +kernel
theorem dX6_move_54 : decode cX6_move 54 = .ok (.idiv, 1) := by decide +kernel
theorem dX6_move_55 : decode cX6_move 55 = .ok (.istore 4, 2) := by decide +kernel
theorem dX6_move_57 : decode cX6_move 57 = .ok (.iload_n 3, 1) := by decide +kernel
theorem dX6_move_58 : decode cX6_move 58 = .ok (.ifCond .eq 10, 3) := by decide +kernel
theorem dX6_move_61 : decode cX6_move 61 = .ok (.aload_n 1, 1) := by decide +kernel
theorem dX6_move_62 : decode cX6_move 62 = .ok (.invokevirtual 125, 3) := by decide +kernel
theorem dX6_move_65 : decode cX6_move 65 = .ok (.goto 12, 3) := by decide +kernel
theorem dX6_move_68 : decode cX6_move 68 = .ok (.aload_n 2, 1) := by decide +kernel
theorem dX6_move_69 : decode cX6_move 69 = .ok (.getfield 103, 3) := by decide +kernel
theorem dX6_move_72 : decode cX6_move 72 = .ok (.iload 4, 2) := by decide +kernel
theorem dX6_move_74 : decode cX6_move 74 = .ok (.invokevirtual 128, 3) := by decide +kernel
theorem dX6_move_77 : decode cX6_move 77 = .ok (.istore 5, 2) := by decide +kernel
theorem dX6_move_79 : decode cX6_move 79 = .ok (.iload 5, 2) := by decide +kernel
theorem dX6_move_81 : decode cX6_move 81 = .ok (.aload_n 1, 1) := by decide +kernel
theorem dX6_move_82 : decode cX6_move 82 = .ok (.getfield 100, 3) := by decide +kernel
theorem dX6_move_85 : decode cX6_move 85 = .ok (.if_icmp .eq 20, 3) := by decide +kernel
theorem dX6_move_88 : decode cX6_move 88 = .ok (.aload_n 0, 1) := by decide +kernel
theorem dX6_move_89 : decode cX6_move 89 = .ok (.aload_n 1, 1) := by decide +kernel
theorem dX6_move_90 : decode cX6_move 90 = .ok (.aload_n 2, 1) := by decide +kernel
theorem dX6_move_91 : decode cX6_move 91 = .ok (.iload 5, 2) := by decide +kernel
theorem dX6_move_93 : decode cX6_move 93 = .ok (.invokevirtual 132, 3) := by decide +kernel
theorem dX6_move_96 : decode cX6_move 96 = .ok (.ifCond .ne 4, 3) := by decide +kernel
theorem dX6_move_99 : decode cX6_move 99 = .ok (.return_, 1) := by decide +kernel
theorem dX6_move_100 : decode cX6_move 100 = .ok (.aload_n 0, 1) := by decide +kernel
theorem dX6_move_101 : decode cX6_move 101 = .ok (.aload_n 1, 1) := by decide +kernel
theorem dX6_move_102 : decode cX6_move 102 = .ok (.invokevirtual 122, 3) := by decide +kernel
theorem dX6_move_105 : decode cX6_move 105 = .ok (.iload_n 3, 1) := by decide +kernel
theorem dX6_move_106 : decode cX6_move 106 = .ok (.ifCond .eq 22, 3) := by decide +kernel
theorem dX6_move_109 : decode cX6_move 109 = .ok (.aload_n 1, 1) := by decide +kernel
theorem dX6_move_110 : decode cX6_move 110 = .ok (.getfield 100, 3) := by decide +kernel
theorem dX6_move_113 : decode cX6_move 113 = .ok (.aload_n 1, 1) := by decide +kernel
theorem dX6_move_114 : decode cX6_move 114 = .ok (.getfield 136, 3) := by decide +kernel
theorem dX6_move_117 : decode cX6_move 117 = .ok (.if_icmp .ne 11, 3) := by decide +kernel
theorem dX6_move_120 : decode cX6_move 120 = .ok (.aload_n 1, 1) := by decide +kernel
theorem dX6_move_121 : decode cX6_move 121 = .ok (.aload_n 0, 1) := by decide +kernel
theorem dX6_move_122 : decode cX6_move 122 = .ok (.getfield 59, 3) := by decide +kernel
theorem dX6_move_125 : decode cX6_move 125 = .ok (.invokevirtual 139, 3) := by decide +kernel
theorem dX6_move_128 : decode cX6_move 128 = .ok (.iload_n 3, 1) := by decide +kernel
theorem dX6_move_129 : decode cX6_move 129 = .ok (.ifCond .ne 30, 3) := by decide +kernel
theorem dX6_move_132 : decode cX6_move 132 = .ok (.iload 4, 2) := by decide +kernel
theorem dX6_move_134 : decode cX6_move 134 = .ok (.aload_n 2, 1) := by decide +kernel
theorem dX6_move_135 : decode cX6_move 135 = .ok (.getfield 103, 3) := by decide +kernel
theorem dX6_move_138 : decode cX6_move 138 = .ok (.getfield 142, 3) := by decide +kernel
theorem dX6_move_141 : decode cX6_move 141 = .ok (.iconst 1, 1) := by decide +kernel
theorem dX6_move_142 : decode cX6_move 142 = .ok (.isub, 1) := by decide +kernel
theorem dX6_move_143 : decode cX6_move 143 = .ok (.if_icmp .ne 16, 3) := by decide +kernel
theorem dX6_move_146 : decode cX6_move 146 = .ok (.aload_n 1, 1) := by decide +kernel
theorem dX6_move_147 : decode cX6_move 147 = .ok (.aload_n 0, 1) := by decide +kernel
theorem dX6_move_148 : decode cX6_move 148 = .ok (.getfield 59, 3) := by decide +kernel
theorem dX6_move_151 : decode cX6_move 151 = .ok (.invokevirtual 139, 3) := by decide +kernel
theorem dX6_move_154 : decode cX6_move 154 = .ok (.aload_n 2, 1) := by decide +kernel
theorem dX6_move_155 : decode cX6_move 155 = .ok (.iconst 2, 1) := by decide +kernel
theorem dX6_move_156 : decode cX6_move 156 = .ok (.putfield 86, 3) := by decide +kernel
theorem dX6_move_159 : decode cX6_move 159 = .ok (.return_, 1) := by decide +kernel
theorem dX6_movesInto_0 : decode cX6_movesInto 0 = .ok (.aload_n 0, 1) := by decide +kernel
theorem dX6_movesInto_1 : decode cX6_movesInto 1 = .ok (.getfield 27, 3) := by decide +kernel
theorem dX6_movesInto_4 : decode cX6_movesInto 4 = .ok (.aload_n 1, 1) := by decide +kernel
theorem dX6_movesInto_5 : decode cX6_movesInto 5 = .ok (.getfield 100, 3) := by decide +kernel
theorem dX6_movesInto_8 : decode cX6_movesInto 8 = .ok (.iload_n 3, 1) := by decide +kernel
theorem dX6_movesInto_9 : decode cX6_movesInto 9 = .ok (.invokestatic 145, 3) := by decide +kernel
theorem dX6_movesInto_12 : decode cX6_movesInto 12 = .ok (.invokevirtual 151, 3) := by decide +kernel
theorem dX6_movesInto_15 : decode cX6_movesInto 15 = .ok (.istore 4, 2) := by decide +kernel
theorem dX6_movesInto_17 : decode cX6_movesInto 17 = .ok (.iload_n 3, 1) := by decide +kernel
theorem dX6_movesInto_18 : decode cX6_movesInto 18 = .ok (.invokestatic 154, 3) := by decide +kernel
theorem dX6_movesInto_21 : decode cX6_movesInto 21 = .ok (.ifCond .eq 12, 3) := by decide +kernel
theorem dX6_movesInto_24 : decode cX6_movesInto 24 = .ok (.iload 4, 2) := by decide +kernel
theorem dX6_movesInto_26 : decode cX6_movesInto 26 = .ok (.aload_n 1, 1) := by decide +kernel
theorem dX6_movesInto_27 : decode cX6_movesInto 27 = .ok (.getfield 112, 3) := by decide +kernel
theorem dX6_movesInto_30 : decode cX6_movesInto 30 = .ok (.if_icmp .le 15, 3) := by decide +kernel
theorem dX6_movesInto_33 : decode cX6_movesInto 33 = .ok (.aload_n 1, 1) := by decide +kernel
theorem dX6_movesInto_34 : decode cX6_movesInto 34 = .ok (.invokevirtual 157, 3) := by decide +kernel
theorem dX6_movesInto_37 : decode cX6_movesInto 37 = .ok (.aload_n 2, 1) := by decide +kernel
theorem dX6_movesInto_38 : decode cX6_movesInto 38 = .ok (.bipush 6, 2) := by decide +kernel
theorem dX6_movesInto_40 : decode cX6_movesInto 40 = .ok (.putfield 86, 3) := by decide +kernel
theorem dX6_movesInto_43 : decode cX6_movesInto 43 = .ok (.iconst 0, 1) := by decide +kernel
theorem dX6_movesInto_44 : decode cX6_movesInto 44 = .ok (.ireturn, 1) := by decide +kernel
theorem dX6_movesInto_45 : decode cX6_movesInto 45 = .ok (.aload_n 1, 1) := by decide +kernel
theorem dX6_movesInto_46 : decode cX6_movesInto 46 = .ok (.dup, 1) := by decide +kernel
theorem dX6_movesInto_47 : decode cX6_movesInto 47 = .ok (.getfield 112, 3) := by decide +kernel
theorem dX6_movesInto_50 : decode cX6_movesInto 50 = .ok (.iload 4, 2) := by decide +kernel
theorem dX6_movesInto_52 : decode cX6_movesInto 52 = .ok (.isub, 1) := by decide +kernel
theorem dX6_movesInto_53 : decode cX6_movesInto 53 = .ok (.putfield 112, 3) := by decide +kernel
theorem dX6_movesInto_56 : decode cX6_movesInto 56 = .ok (.aload_n 1, 1) := by decide +kernel
theorem dX6_movesInto_57 : decode cX6_movesInto 57 = .ok (.iload_n 3, 1) := by decide +kernel
theorem dX6_movesInto_58 : decode cX6_movesInto 58 = .ok (.putfield 100, 3) := by decide +kernel
theorem dX6_movesInto_61 : decode cX6_movesInto 61 = .ok (.iconst 1, 1) := by decide +kernel
theorem dX6_movesInto_62 : decode cX6_movesInto 62 = .ok (.ireturn, 1) := by decide +kernel
theorem dX6_comeIn_0 : decode cX6_comeIn 0 = .ok (.aload_n 1, 1) := by decide +kernel
theorem dX6_comeIn_1 : decode cX6_comeIn 1 = .ok (.getfield 100, 3) := by decide +kernel
theorem dX6_comeIn_4 : decode cX6_comeIn 4 = .ok (.invokestatic 154, 3) := by decide +kernel
theorem dX6_comeIn_7 : decode cX6_comeIn 7 = .ok (.ifCond .ne 4, 3) := by decide +kernel
theorem dX6_comeIn_10 : decode cX6_comeIn 10 = .ok (.return_, 1) := by decide +kernel
theorem dX6_comeIn_11 : decode cX6_comeIn 11 = .ok (.aload_n 1, 1) := by decide +kernel
theorem dX6_comeIn_12 : decode cX6_comeIn 12 = .ok (.getfield 160, 3) := by decide +kernel
theorem dX6_comeIn_15 : decode cX6_comeIn 15 = .ok (.aload_n 0, 1) := by decide +kernel
theorem dX6_comeIn_16 : decode cX6_comeIn 16 = .ok (.getfield 27, 3) := by decide +kernel
theorem dX6_comeIn_19 : decode cX6_comeIn 19 = .ok (.getfield 163, 3) := by decide +kernel
theorem dX6_comeIn_22 : decode cX6_comeIn 22 = .ok (.aload_n 1, 1) := by decide +kernel
theorem dX6_comeIn_23 : decode cX6_comeIn 23 = .ok (.getfield 100, 3) := by decide +kernel
theorem dX6_comeIn_26 : decode cX6_comeIn 26 = .ok (.iaload, 1) := by decide +kernel
theorem dX6_comeIn_27 : decode cX6_comeIn 27 = .ok (.imul, 1) := by decide +kernel
theorem dX6_comeIn_28 : decode cX6_comeIn 28 = .ok (.istore_n 2, 1) := by decide +kernel
theorem dX6_comeIn_29 : decode cX6_comeIn 29 = .ok (.aload_n 0, 1) := by decide +kernel
theorem dX6_comeIn_30 : decode cX6_comeIn 30 = .ok (.getfield 23, 3) := by decide +kernel
theorem dX6_comeIn_33 : decode cX6_comeIn 33 = .ok (.aload_n 1, 1) := by decide +kernel
theorem dX6_comeIn_34 : decode cX6_comeIn 34 = .ok (.getfield 100, 3) := by decide +kernel
theorem dX6_comeIn_37 : decode cX6_comeIn 37 = .ok (.dup2, 1) := by decide +kernel
theorem dX6_comeIn_38 : decode cX6_comeIn 38 = .ok (.iaload, 1) := by decide +kernel
theorem dX6_comeIn_39 : decode cX6_comeIn 39 = .ok (.iload_n 2, 1) := by decide +kernel
theorem dX6_comeIn_40 : decode cX6_comeIn 40 = .ok (.iadd, 1) := by decide +kernel
theorem dX6_comeIn_41 : decode cX6_comeIn 41 = .ok (.iastore, 1) := by decide +kernel
theorem dX6_comeIn_42 : decode cX6_comeIn 42 = .ok (.aload_n 0, 1) := by decide +kernel
theorem dX6_comeIn_43 : decode cX6_comeIn 43 = .ok (.dup, 1) := by decide +kernel
theorem dX6_comeIn_44 : decode cX6_comeIn 44 = .ok (.getfield 53, 3) := by decide +kernel
theorem dX6_comeIn_47 : decode cX6_comeIn 47 = .ok (.iload_n 2, 1) := by decide +kernel
theorem dX6_comeIn_48 : decode cX6_comeIn 48 = .ok (.iadd, 1) := by decide +kernel
theorem dX6_comeIn_49 : decode cX6_comeIn 49 = .ok (.putfield 53, 3) := by decide +kernel
theorem dX6_comeIn_52 : decode cX6_comeIn 52 = .ok (.aload_n 0, 1) := by decide +kernel
theorem dX6_comeIn_53 : decode cX6_comeIn 53 = .ok (.getfield 27, 3) := by decide +kernel
theorem dX6_comeIn_56 : decode cX6_comeIn 56 = .ok (.aload_n 1, 1) := by decide +kernel
theorem dX6_comeIn_57 : decode cX6_comeIn 57 = .ok (.getfield 100, 3) := by decide +kernel
theorem dX6_comeIn_60 : decode cX6_comeIn 60 = .ok (.aload_n 1, 1) := by decide +kernel
theorem dX6_comeIn_61 : decode cX6_comeIn 61 = .ok (.getfield 166, 3) := by decide +kernel
theorem dX6_comeIn_64 : decode cX6_comeIn 64 = .ok (.aload_n 0, 1) := by decide +kernel
theorem dX6_comeIn_65 : decode cX6_comeIn 65 = .ok (.getfield 59, 3) := by decide +kernel
theorem dX6_comeIn_68 : decode cX6_comeIn 68 = .ok (.invokevirtual 169, 3) := by decide +kernel
theorem dX6_comeIn_71 : decode cX6_comeIn 71 = .ok (.ifCond .eq 13, 3) := by decide +kernel
theorem dX6_comeIn_74 : decode cX6_comeIn 74 = .ok (.aload_n 1, 1) := by decide +kernel
theorem dX6_comeIn_75 : decode cX6_comeIn 75 = .ok (.dup, 1) := by decide +kernel
theorem dX6_comeIn_76 : decode cX6_comeIn 76 = .ok (.getfield 173, 3) := by decide +kernel
theorem dX6_comeIn_79 : decode cX6_comeIn 79 = .ok (.iconst 1, 1) := by decide +kernel
theorem dX6_comeIn_80 : decode cX6_comeIn 80 = .ok (.iadd, 1) := by decide +kernel
theorem dX6_comeIn_81 : decode cX6_comeIn 81 = .ok (.putfield 173, 3) := by decide +kernel
theorem dX6_comeIn_84 : decode cX6_comeIn 84 = .ok (.return_, 1) := by decide +kernel
theorem dX6_pairsNear_0 : decode cX6_pairsNear 0 = .ok (.iconst 0, 1) := by decide +kernel
theorem dX6_pairsNear_1 : decode cX6_pairsNear 1 = .ok (.istore_n 1, 1) := by decide +kernel
theorem dX6_pairsNear_2 : decode cX6_pairsNear 2 = .ok (.iconst 0, 1) := by decide +kernel
theorem dX6_pairsNear_3 : decode cX6_pairsNear 3 = .ok (.istore_n 2, 1) := by decide +kernel
theorem dX6_pairsNear_4 : decode cX6_pairsNear 4 = .ok (.iload_n 2, 1) := by decide +kernel
theorem dX6_pairsNear_5 : decode cX6_pairsNear 5 = .ok (.aload_n 0, 1) := by decide +kernel
theorem dX6_pairsNear_6 : decode cX6_pairsNear 6 = .ok (.getfield 33, 3) := by decide +kernel
theorem dX6_pairsNear_9 : decode cX6_pairsNear 9 = .ok (.if_icmp .ge 77, 3) := by decide +kernel
theorem dX6_pairsNear_12 : decode cX6_pairsNear 12 = .ok (.iload_n 2, 1) := by decide +kernel
theorem dX6_pairsNear_13 : decode cX6_pairsNear 13 = .ok (.iconst 1, 1) := by decide +kernel
theorem dX6_pairsNear_14 : decode cX6_pairsNear 14 = .ok (.iadd, 1) := by decide +kernel
theorem dX6_pairsNear_15 : decode cX6_pairsNear 15 = .ok (.istore_n 3, 1) := by decide +kernel
theorem dX6_pairsNear_16 : decode cX6_pairsNear 16 = .ok (.iload_n 3, 1) := by decide +kernel
theorem dX6_pairsNear_17 : decode cX6_pairsNear 17 = .ok (.aload_n 0, 1) := by decide +kernel
theorem dX6_pairsNear_18 : decode cX6_pairsNear 18 = .ok (.getfield 33, 3) := by decide +kernel
theorem dX6_pairsNear_21 : decode cX6_pairsNear 21 = .ok (.if_icmp .ge 59, 3) := by decide +kernel
theorem dX6_pairsNear_24 : decode cX6_pairsNear 24 = .ok (.aload_n 0, 1) := by decide +kernel
theorem dX6_pairsNear_25 : decode cX6_pairsNear 25 = .ok (.getfield 11, 3) := by decide +kernel
theorem dX6_pairsNear_28 : decode cX6_pairsNear 28 = .ok (.iload_n 2, 1) := by decide +kernel
theorem dX6_pairsNear_29 : decode cX6_pairsNear 29 = .ok (.aaload, 1) := by decide +kernel
theorem dX6_pairsNear_30 : decode cX6_pairsNear 30 = .ok (.getfield 99, 3) := by decide +kernel
theorem dX6_pairsNear_33 : decode cX6_pairsNear 33 = .ok (.iconst 1, 1) := by decide +kernel
theorem dX6_pairsNear_34 : decode cX6_pairsNear 34 = .ok (.if_icmp .ne 40, 3) := by decide +kernel
theorem dX6_pairsNear_37 : decode cX6_pairsNear 37 = .ok (.aload_n 0, 1) := by decide +kernel
theorem dX6_pairsNear_38 : decode cX6_pairsNear 38 = .ok (.getfield 11, 3) := by decide +kernel
theorem dX6_pairsNear_41 : decode cX6_pairsNear 41 = .ok (.iload_n 3, 1) := by decide +kernel
theorem dX6_pairsNear_42 : decode cX6_pairsNear 42 = .ok (.aaload, 1) := by decide +kernel
theorem dX6_pairsNear_43 : decode cX6_pairsNear 43 = .ok (.getfield 99, 3) := by decide +kernel
theorem dX6_pairsNear_46 : decode cX6_pairsNear 46 = .ok (.iconst 1, 1) := by decide +kernel
theorem dX6_pairsNear_47 : decode cX6_pairsNear 47 = .ok (.if_icmp .ne 27, 3) := by decide +kernel
theorem dX6_pairsNear_50 : decode cX6_pairsNear 50 = .ok (.aload_n 0, 1) := by decide +kernel
theorem dX6_pairsNear_51 : decode cX6_pairsNear 51 = .ok (.getfield 11, 3) := by decide +kernel
theorem dX6_pairsNear_54 : decode cX6_pairsNear 54 = .ok (.iload_n 2, 1) := by decide +kernel
theorem dX6_pairsNear_55 : decode cX6_pairsNear 55 = .ok (.aaload, 1) := by decide +kernel
theorem dX6_pairsNear_56 : decode cX6_pairsNear 56 = .ok (.getfield 100, 3) := by decide +kernel
theorem dX6_pairsNear_59 : decode cX6_pairsNear 59 = .ok (.aload_n 0, 1) := by decide +kernel
theorem dX6_pairsNear_60 : decode cX6_pairsNear 60 = .ok (.getfield 11, 3) := by decide +kernel
theorem dX6_pairsNear_63 : decode cX6_pairsNear 63 = .ok (.iload_n 3, 1) := by decide +kernel
theorem dX6_pairsNear_64 : decode cX6_pairsNear 64 = .ok (.aaload, 1) := by decide +kernel
theorem dX6_pairsNear_65 : decode cX6_pairsNear 65 = .ok (.getfield 100, 3) := by decide +kernel
theorem dX6_pairsNear_68 : decode cX6_pairsNear 68 = .ok (.if_icmp .ne 6, 3) := by decide +kernel
theorem dX6_pairsNear_71 : decode cX6_pairsNear 71 = .ok (.iinc 1 1, 3) := by decide +kernel
theorem dX6_pairsNear_74 : decode cX6_pairsNear 74 = .ok (.iinc 3 1, 3) := by decide +kernel
theorem dX6_pairsNear_77 : decode cX6_pairsNear 77 = .ok (.goto (-61), 3) := by decide +kernel
theorem dX6_pairsNear_80 : decode cX6_pairsNear 80 = .ok (.iinc 2 1, 3) := by decide +kernel
theorem dX6_pairsNear_83 : decode cX6_pairsNear 83 = .ok (.goto (-79), 3) := by decide +kernel
theorem dX6_pairsNear_86 : decode cX6_pairsNear 86 = .ok (.iload_n 1, 1) := by decide +kernel
theorem dX6_pairsNear_87 : decode cX6_pairsNear 87 = .ok (.ireturn, 1) := by decide +kernel
theorem dX6_chargeIfLying_0 : decode cX6_chargeIfLying 0 = .ok (.aload_n 1, 1) := by decide +kernel
theorem dX6_chargeIfLying_1 : decode cX6_chargeIfLying 1 = .ok (.getfield 99, 3) := by decide +kernel
theorem dX6_chargeIfLying_4 : decode cX6_chargeIfLying 4 = .ok (.ifCond .ne 31, 3) := by decide +kernel
theorem dX6_chargeIfLying_7 : decode cX6_chargeIfLying 7 = .ok (.aload_n 1, 1) := by decide +kernel
theorem dX6_chargeIfLying_8 : decode cX6_chargeIfLying 8 = .ok (.getfield 176, 3) := by decide +kernel
theorem dX6_chargeIfLying_11 : decode cX6_chargeIfLying 11 = .ok (.aload_n 0, 1) := by decide +kernel
theorem dX6_chargeIfLying_12 : decode cX6_chargeIfLying 12 = .ok (.getfield 59, 3) := by decide +kernel
theorem dX6_chargeIfLying_15 : decode cX6_chargeIfLying 15 = .ok (.if_icmp .eq 20, 3) := by decide +kernel
theorem dX6_chargeIfLying_18 : decode cX6_chargeIfLying 18 = .ok (.aload_n 1, 1) := by decide +kernel
theorem dX6_chargeIfLying_19 : decode cX6_chargeIfLying 19 = .ok (.aload_n 1, 1) := by decide +kernel
theorem dX6_chargeIfLying_20 : decode cX6_chargeIfLying 20 = .ok (.getfield 179, 3) := by decide +kernel
theorem dX6_chargeIfLying_23 : decode cX6_chargeIfLying 23 = .ok (.aload_n 1, 1) := by decide +kernel
theorem dX6_chargeIfLying_24 : decode cX6_chargeIfLying 24 = .ok (.getfield 112, 3) := by decide +kernel
theorem dX6_chargeIfLying_27 : decode cX6_chargeIfLying 27 = .ok (.iconst 3, 1) := by decide +kernel
theorem dX6_chargeIfLying_28 : decode cX6_chargeIfLying 28 = .ok (.iadd, 1) := by decide +kernel
theorem dX6_chargeIfLying_29 : decode cX6_chargeIfLying 29 = .ok (.invokestatic 182, 3) := by decide +kernel
theorem dX6_chargeIfLying_32 : decode cX6_chargeIfLying 32 = .ok (.putfield 112, 3) := by decide +kernel
theorem dX6_chargeIfLying_35 : decode cX6_chargeIfLying 35 = .ok (.return_, 1) := by decide +kernel
theorem dX6_flyingIn_0 : decode cX6_flyingIn 0 = .ok (.iconst 0, 1) := by decide +kernel
theorem dX6_flyingIn_1 : decode cX6_flyingIn 1 = .ok (.istore_n 2, 1) := by decide +kernel
theorem dX6_flyingIn_2 : decode cX6_flyingIn 2 = .ok (.iconst 0, 1) := by decide +kernel
theorem dX6_flyingIn_3 : decode cX6_flyingIn 3 = .ok (.istore_n 3, 1) := by decide +kernel
theorem dX6_flyingIn_4 : decode cX6_flyingIn 4 = .ok (.iload_n 3, 1) := by decide +kernel
theorem dX6_flyingIn_5 : decode cX6_flyingIn 5 = .ok (.aload_n 0, 1) := by decide +kernel
theorem dX6_flyingIn_6 : decode cX6_flyingIn 6 = .ok (.getfield 33, 3) := by decide +kernel
theorem dX6_flyingIn_9 : decode cX6_flyingIn 9 = .ok (.if_icmp .ge 38, 3) := by decide +kernel
theorem dX6_flyingIn_12 : decode cX6_flyingIn 12 = .ok (.aload_n 0, 1) := by decide +kernel
theorem dX6_flyingIn_13 : decode cX6_flyingIn 13 = .ok (.getfield 11, 3) := by decide +kernel
theorem dX6_flyingIn_16 : decode cX6_flyingIn 16 = .ok (.iload_n 3, 1) := by decide +kernel
theorem dX6_flyingIn_17 : decode cX6_flyingIn 17 = .ok (.aaload, 1) := by decide +kernel
theorem dX6_flyingIn_18 : decode cX6_flyingIn 18 = .ok (.getfield 99, 3) := by decide +kernel
theorem dX6_flyingIn_21 : decode cX6_flyingIn 21 = .ok (.iconst 1, 1) := by decide +kernel
theorem dX6_flyingIn_22 : decode cX6_flyingIn 22 = .ok (.if_icmp .ne 19, 3) := by decide +kernel
theorem dX6_flyingIn_25 : decode cX6_flyingIn 25 = .ok (.aload_n 0, 1) := by decide +kernel
theorem dX6_flyingIn_26 : decode cX6_flyingIn 26 = .ok (.getfield 11, 3) := by decide +kernel
theorem dX6_flyingIn_29 : decode cX6_flyingIn 29 = .ok (.iload_n 3, 1) := by decide +kernel
theorem dX6_flyingIn_30 : decode cX6_flyingIn 30 = .ok (.aaload, 1) := by decide +kernel
theorem dX6_flyingIn_31 : decode cX6_flyingIn 31 = .ok (.getfield 100, 3) := by decide +kernel
theorem dX6_flyingIn_34 : decode cX6_flyingIn 34 = .ok (.iload_n 1, 1) := by decide +kernel
theorem dX6_flyingIn_35 : decode cX6_flyingIn 35 = .ok (.if_icmp .ne 6, 3) := by decide +kernel
theorem dX6_flyingIn_38 : decode cX6_flyingIn 38 = .ok (.iinc 2 1, 3) := by decide +kernel
theorem dX6_flyingIn_41 : decode cX6_flyingIn 41 = .ok (.iinc 3 1, 3) := by decide +kernel
theorem dX6_flyingIn_44 : decode cX6_flyingIn 44 = .ok (.goto (-40), 3) := by decide +kernel
theorem dX6_flyingIn_47 : decode cX6_flyingIn 47 = .ok (.iload_n 2, 1) := by decide +kernel
theorem dX6_flyingIn_48 : decode cX6_flyingIn 48 = .ok (.ireturn, 1) := by decide +kernel
theorem dX6_flightsIn_0 : decode cX6_flightsIn 0 = .ok (.iconst 0, 1) := by decide +kernel
theorem dX6_flightsIn_1 : decode cX6_flightsIn 1 = .ok (.istore_n 2, 1) := by decide +kernel
theorem dX6_flightsIn_2 : decode cX6_flightsIn 2 = .ok (.iconst 0, 1) := by decide +kernel
theorem dX6_flightsIn_3 : decode cX6_flightsIn 3 = .ok (.istore_n 3, 1) := by decide +kernel
theorem dX6_flightsIn_4 : decode cX6_flightsIn 4 = .ok (.iload_n 3, 1) := by decide +kernel
theorem dX6_flightsIn_5 : decode cX6_flightsIn 5 = .ok (.aload_n 0, 1) := by decide +kernel
theorem dX6_flightsIn_6 : decode cX6_flightsIn 6 = .ok (.getfield 41, 3) := by decide +kernel
theorem dX6_flightsIn_9 : decode cX6_flightsIn 9 = .ok (.if_icmp .ge 25, 3) := by decide +kernel
theorem dX6_flightsIn_12 : decode cX6_flightsIn 12 = .ok (.aload_n 0, 1) := by decide +kernel
theorem dX6_flightsIn_13 : decode cX6_flightsIn 13 = .ok (.getfield 19, 3) := by decide +kernel
theorem dX6_flightsIn_16 : decode cX6_flightsIn 16 = .ok (.iload_n 3, 1) := by decide +kernel
theorem dX6_flightsIn_17 : decode cX6_flightsIn 17 = .ok (.aaload, 1) := by decide +kernel
theorem dX6_flightsIn_18 : decode cX6_flightsIn 18 = .ok (.getfield 86, 3) := by decide +kernel
theorem dX6_flightsIn_21 : decode cX6_flightsIn 21 = .ok (.iload_n 1, 1) := by decide +kernel
theorem dX6_flightsIn_22 : decode cX6_flightsIn 22 = .ok (.if_icmp .ne 6, 3) := by decide +kernel
theorem dX6_flightsIn_25 : decode cX6_flightsIn 25 = .ok (.iinc 2 1, 3) := by decide +kernel
theorem dX6_flightsIn_28 : decode cX6_flightsIn 28 = .ok (.iinc 3 1, 3) := by decide +kernel
theorem dX6_flightsIn_31 : decode cX6_flightsIn 31 = .ok (.goto (-27), 3) := by decide +kernel
theorem dX6_flightsIn_34 : decode cX6_flightsIn 34 = .ok (.iload_n 2, 1) := by decide +kernel
theorem dX6_flightsIn_35 : decode cX6_flightsIn 35 = .ok (.ireturn, 1) := by decide +kernel
theorem dX6_allBreaches_0 : decode cX6_allBreaches 0 = .ok (.iconst 0, 1) := by decide +kernel
theorem dX6_allBreaches_1 : decode cX6_allBreaches 1 = .ok (.istore_n 1, 1) := by decide +kernel
theorem dX6_allBreaches_2 : decode cX6_allBreaches 2 = .ok (.iconst 0, 1) := by decide +kernel
theorem dX6_allBreaches_3 : decode cX6_allBreaches 3 = .ok (.istore_n 2, 1) := by decide +kernel
theorem dX6_allBreaches_4 : decode cX6_allBreaches 4 = .ok (.iload_n 2, 1) := by decide +kernel
theorem dX6_allBreaches_5 : decode cX6_allBreaches 5 = .ok (.aload_n 0, 1) := by decide +kernel
theorem dX6_allBreaches_6 : decode cX6_allBreaches 6 = .ok (.getfield 33, 3) := by decide +kernel
theorem dX6_allBreaches_9 : decode cX6_allBreaches 9 = .ok (.if_icmp .ge 21, 3) := by decide +kernel
theorem dX6_allBreaches_12 : decode cX6_allBreaches 12 = .ok (.iload_n 1, 1) := by decide +kernel
theorem dX6_allBreaches_13 : decode cX6_allBreaches 13 = .ok (.aload_n 0, 1) := by decide +kernel
theorem dX6_allBreaches_14 : decode cX6_allBreaches 14 = .ok (.getfield 11, 3) := by decide +kernel
theorem dX6_allBreaches_17 : decode cX6_allBreaches 17 = .ok (.iload_n 2, 1) := by decide +kernel
theorem dX6_allBreaches_18 : decode cX6_allBreaches 18 = .ok (.aaload, 1) := by decide +kernel
theorem dX6_allBreaches_19 : decode cX6_allBreaches 19 = .ok (.getfield 173, 3) := by decide +kernel
theorem dX6_allBreaches_22 : decode cX6_allBreaches 22 = .ok (.iadd, 1) := by decide +kernel
theorem dX6_allBreaches_23 : decode cX6_allBreaches 23 = .ok (.istore_n 1, 1) := by decide +kernel
theorem dX6_allBreaches_24 : decode cX6_allBreaches 24 = .ok (.iinc 2 1, 3) := by decide +kernel
theorem dX6_allBreaches_27 : decode cX6_allBreaches 27 = .ok (.goto (-23), 3) := by decide +kernel
theorem dX6_allBreaches_30 : decode cX6_allBreaches 30 = .ok (.iload_n 1, 1) := by decide +kernel
theorem dX6_allBreaches_31 : decode cX6_allBreaches 31 = .ok (.ireturn, 1) := by decide +kernel
theorem dX7_init_0 : decode cX7_init 0 = .ok (.aload_n 0, 1) := by decide +kernel
theorem dX7_init_1 : decode cX7_init 1 = .ok (.invokespecial 3, 3) := by decide +kernel
theorem dX7_init_4 : decode cX7_init 4 = .ok (.return_, 1) := by decide +kernel
theorem dX7_shuts_0 : decode cX7_shuts 0 = .ok (.aload_n 0, 1) := by decide +kernel
theorem dX7_shuts_1 : decode cX7_shuts 1 = .ok (.getfield 9, 3) := by decide +kernel
theorem dX7_shuts_4 : decode cX7_shuts 4 = .ok (.iload_n 1, 1) := by decide +kernel
theorem dX7_shuts_5 : decode cX7_shuts 5 = .ok (.if_icmp .ne 11, 3) := by decide +kernel
theorem dX7_shuts_8 : decode cX7_shuts 8 = .ok (.iload_n 2, 1) := by decide +kernel
theorem dX7_shuts_9 : decode cX7_shuts 9 = .ok (.aload_n 0, 1) := by decide +kernel
theorem dX7_shuts_10 : decode cX7_shuts 10 = .ok (.getfield 15, 3) := by decide +kernel
theorem dX7_shuts_13 : decode cX7_shuts 13 = .ok (.if_icmp .lt 5, 3) := by decide +kernel
theorem dX7_shuts_16 : decode cX7_shuts 16 = .ok (.iconst 0, 1) := by decide +kernel
theorem dX7_shuts_17 : decode cX7_shuts 17 = .ok (.ireturn, 1) := by decide +kernel
theorem dX7_shuts_18 : decode cX7_shuts 18 = .ok (.iload_n 3, 1) := by decide +kernel
theorem dX7_shuts_19 : decode cX7_shuts 19 = .ok (.bipush 60, 2) := by decide +kernel
theorem dX7_shuts_21 : decode cX7_shuts 21 = .ok (.idiv, 1) := by decide +kernel
theorem dX7_shuts_22 : decode cX7_shuts 22 = .ok (.bipush 24, 2) := by decide +kernel
theorem dX7_shuts_24 : decode cX7_shuts 24 = .ok (.irem, 1) := by decide +kernel
theorem dX7_shuts_25 : decode cX7_shuts 25 = .ok (.istore 4, 2) := by decide +kernel
theorem dX7_shuts_27 : decode cX7_shuts 27 = .ok (.aload_n 0, 1) := by decide +kernel
theorem dX7_shuts_28 : decode cX7_shuts 28 = .ok (.getfield 18, 3) := by decide +kernel
theorem dX7_shuts_31 : decode cX7_shuts 31 = .ok (.aload_n 0, 1) := by decide +kernel
theorem dX7_shuts_32 : decode cX7_shuts 32 = .ok (.getfield 21, 3) := by decide +kernel
theorem dX7_shuts_35 : decode cX7_shuts 35 = .ok (.if_icmp .ge 27, 3) := by decide +kernel
theorem dX7_shuts_38 : decode cX7_shuts 38 = .ok (.iload 4, 2) := by decide +kernel
theorem dX7_shuts_40 : decode cX7_shuts 40 = .ok (.aload_n 0, 1) := by decide +kernel
theorem dX7_shuts_41 : decode cX7_shuts 41 = .ok (.getfield 18, 3) := by decide +kernel
theorem dX7_shuts_44 : decode cX7_shuts 44 = .ok (.if_icmp .lt 16, 3) := by decide +kernel
theorem dX7_shuts_47 : decode cX7_shuts 47 = .ok (.iload 4, 2) := by decide +kernel
theorem dX7_shuts_49 : decode cX7_shuts 49 = .ok (.aload_n 0, 1) := by decide +kernel
theorem dX7_shuts_50 : decode cX7_shuts 50 = .ok (.getfield 21, 3) := by decide +kernel
theorem dX7_shuts_53 : decode cX7_shuts 53 = .ok (.if_icmp .ge 7, 3) := by decide +kernel
theorem dX7_shuts_56 : decode cX7_shuts 56 = .ok (.iconst 1, 1) := by decide +kernel
theorem dX7_shuts_57 : decode cX7_shuts 57 = .ok (.goto 4, 3) := by decide +kernel
theorem dX7_shuts_60 : decode cX7_shuts 60 = .ok (.iconst 0, 1) := by decide +kernel
theorem dX7_shuts_61 : decode cX7_shuts 61 = .ok (.ireturn, 1) := by decide +kernel
theorem dX7_shuts_62 : decode cX7_shuts 62 = .ok (.iload 4, 2) := by decide +kernel
theorem dX7_shuts_64 : decode cX7_shuts 64 = .ok (.aload_n 0, 1) := by decide +kernel
theorem dX7_shuts_65 : decode cX7_shuts 65 = .ok (.getfield 18, 3) := by decide +kernel
theorem dX7_shuts_68 : decode cX7_shuts 68 = .ok (.if_icmp .ge 12, 3) := by decide +kernel
theorem dX7_shuts_71 : decode cX7_shuts 71 = .ok (.iload 4, 2) := by decide +kernel
theorem dX7_shuts_73 : decode cX7_shuts 73 = .ok (.aload_n 0, 1) := by decide +kernel
theorem dX7_shuts_74 : decode cX7_shuts 74 = .ok (.getfield 21, 3) := by decide +kernel
theorem dX7_shuts_77 : decode cX7_shuts 77 = .ok (.if_icmp .ge 7, 3) := by decide +kernel
theorem dX7_shuts_80 : decode cX7_shuts 80 = .ok (.iconst 1, 1) := by decide +kernel
theorem dX7_shuts_81 : decode cX7_shuts 81 = .ok (.goto 4, 3) := by decide +kernel
theorem dX7_shuts_84 : decode cX7_shuts 84 = .ok (.iconst 0, 1) := by decide +kernel
theorem dX7_shuts_85 : decode cX7_shuts 85 = .ok (.ireturn, 1) := by decide +kernel
theorem dX8_init_0 : decode cX8_init 0 = .ok (.aload_n 0, 1) := by decide +kernel
theorem dX8_init_1 : decode cX8_init 1 = .ok (.invokespecial 1, 3) := by decide +kernel
theorem dX8_init_4 : decode cX8_init 4 = .ok (.aload_n 0, 1) := by decide +kernel
theorem dX8_init_5 : decode cX8_init 5 = .ok (.new 7, 3) := by decide +kernel
theorem dX8_init_8 : decode cX8_init 8 = .ok (.dup, 1) := by decide +kernel
theorem dX8_init_9 : decode cX8_init 9 = .ok (.invokespecial 9, 3) := by decide +kernel
theorem dX8_init_12 : decode cX8_init 12 = .ok (.putfield 10, 3) := by decide +kernel
theorem dX8_init_15 : decode cX8_init 15 = .ok (.aload_n 0, 1) := by decide +kernel
theorem dX8_init_16 : decode cX8_init 16 = .ok (.new 16, 3) := by decide +kernel
theorem dX8_init_19 : decode cX8_init 19 = .ok (.dup, 1) := by decide +kernel
theorem dX8_init_20 : decode cX8_init 20 = .ok (.aload_n 0, 1) := by decide +kernel
theorem dX8_init_21 : decode cX8_init 21 = .ok (.getfield 10, 3) := by decide +kernel
theorem dX8_init_24 : decode cX8_init 24 = .ok (.invokespecial 18, 3) := by decide +kernel
theorem dX8_init_27 : decode cX8_init 27 = .ok (.putfield 21, 3) := by decide +kernel
theorem dX8_init_30 : decode cX8_init 30 = .ok (.aload_n 0, 1) := by decide +kernel
theorem dX8_init_31 : decode cX8_init 31 = .ok (.new 16, 3) := by decide +kernel
theorem dX8_init_34 : decode cX8_init 34 = .ok (.dup, 1) := by decide +kernel
theorem dX8_init_35 : decode cX8_init 35 = .ok (.aload_n 0, 1) := by decide +kernel
theorem dX8_init_36 : decode cX8_init 36 = .ok (.getfield 10, 3) := by decide +kernel
theorem dX8_init_39 : decode cX8_init 39 = .ok (.invokespecial 18, 3) := by decide +kernel
theorem dX8_init_42 : decode cX8_init 42 = .ok (.putfield 25, 3) := by decide +kernel
theorem dX8_init_45 : decode cX8_init 45 = .ok (.aload_n 0, 1) := by decide +kernel
theorem dX8_init_46 : decode cX8_init 46 = .ok (.new 28, 3) := by decide +kernel
theorem dX8_init_49 : decode cX8_init 49 = .ok (.dup, 1) := by decide +kernel
theorem dX8_init_50 : decode cX8_init 50 = .ok (.invokespecial 30, 3) := by decide +kernel
theorem dX8_init_53 : decode cX8_init 53 = .ok (.putfield 31, 3) := by decide +kernel
