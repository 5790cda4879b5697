theorem dX8_init_56 : decode cX8_init 56 = .ok (.aload_n 0, 1) := by decide +kernel
theorem dX8_init_57 : decode cX8_init 57 = .ok (.new 35, 3) := by decide +kernel
theorem dX8_init_60 : decode cX8_init 60 = .ok (.dup, 1) := by decide +kernel
theorem dX8_init_61 : decode cX8_init 61 = .ok (.aload_n 0, 1) := by decide +kernel
theorem dX8_init_62 : decode cX8_init 62 = .ok (.getfield 10, 3) := by decide +kernel
theorem dX8_init_65 : decode cX8_init 65 = .ok (.aload_n 0, 1) := by decide +kernel
theorem dX8_init_66 : decode cX8_init 66 = .ok (.getfield 21, 3) := by decide +kernel
theorem dX8_init_69 : decode cX8_init 69 = .ok (.invokespecial 37, 3) := by decide +kernel
theorem dX8_init_72 : decode cX8_init 72 = .ok (.putfield 40, 3) := by decide +kernel
theorem dX8_init_75 : decode cX8_init 75 = .ok (.aload_n 0, 1) := by decide +kernel
theorem dX8_init_76 : decode cX8_init 76 = .ok (.new 44, 3) := by decide +kernel
theorem dX8_init_79 : decode cX8_init 79 = .ok (.dup, 1) := by decide +kernel
theorem dX8_init_80 : decode cX8_init 80 = .ok (.aload_n 0, 1) := by decide +kernel
theorem dX8_init_81 : decode cX8_init 81 = .ok (.getfield 10, 3) := by decide +kernel
theorem dX8_init_84 : decode cX8_init 84 = .ok (.invokespecial 46, 3) := by decide +kernel
theorem dX8_init_87 : decode cX8_init 87 = .ok (.putfield 47, 3) := by decide +kernel
theorem dX8_init_90 : decode cX8_init 90 = .ok (.return_, 1) := by decide +kernel
theorem dX8_houses_0 : decode cX8_houses 0 = .ok (.iload_n 1, 1) := by decide +kernel
theorem dX8_houses_1 : decode cX8_houses 1 = .ok (.invokestatic 51, 3) := by decide +kernel
theorem dX8_houses_4 : decode cX8_houses 4 = .ok (.iload_n 2, 1) := by decide +kernel
theorem dX8_houses_5 : decode cX8_houses 5 = .ok (.ifCond .lt 13, 3) := by decide +kernel
theorem dX8_houses_8 : decode cX8_houses 8 = .ok (.iload_n 2, 1) := by decide +kernel
theorem dX8_houses_9 : decode cX8_houses 9 = .ok (.bipush 9, 2) := by decide +kernel
theorem dX8_houses_11 : decode cX8_houses 11 = .ok (.if_icmp .gt 7, 3) := by decide +kernel
theorem dX8_houses_14 : decode cX8_houses 14 = .ok (.iconst 1, 1) := by decide +kernel
theorem dX8_houses_15 : decode cX8_houses 15 = .ok (.goto 4, 3) := by decide +kernel
theorem dX8_houses_18 : decode cX8_houses 18 = .ok (.iconst 0, 1) := by decide +kernel
theorem dX8_houses_19 : decode cX8_houses 19 = .ok (.invokestatic 55, 3) := by decide +kernel
theorem dX8_houses_22 : decode cX8_houses 22 = .ok (.aload_n 0, 1) := by decide +kernel
theorem dX8_houses_23 : decode cX8_houses 23 = .ok (.getfield 10, 3) := by decide +kernel
theorem dX8_houses_26 : decode cX8_houses 26 = .ok (.getfield 59, 3) := by decide +kernel
theorem dX8_houses_29 : decode cX8_houses 29 = .ok (.iload_n 1, 1) := by decide +kernel
theorem dX8_houses_30 : decode cX8_houses 30 = .ok (.iaload, 1) := by decide +kernel
theorem dX8_houses_31 : decode cX8_houses 31 = .ok (.istore_n 3, 1) := by decide +kernel
theorem dX8_houses_32 : decode cX8_houses 32 = .ok (.aload_n 0, 1) := by decide +kernel
theorem dX8_houses_33 : decode cX8_houses 33 = .ok (.getfield 10, 3) := by decide +kernel
theorem dX8_houses_36 : decode cX8_houses 36 = .ok (.getfield 59, 3) := by decide +kernel
theorem dX8_houses_39 : decode cX8_houses 39 = .ok (.iload_n 1, 1) := by decide +kernel
theorem dX8_houses_40 : decode cX8_houses 40 = .ok (.iload_n 2, 1) := by decide +kernel
theorem dX8_houses_41 : decode cX8_houses 41 = .ok (.iastore, 1) := by decide +kernel
theorem dX8_houses_42 : decode cX8_houses 42 = .ok (.iload_n 3, 1) := by decide +kernel
theorem dX8_houses_43 : decode cX8_houses 43 = .ok (.ireturn, 1) := by decide +kernel
theorem dX8_tower_0 : decode cX8_tower 0 = .ok (.iload_n 1, 1) := by decide +kernel
theorem dX8_tower_1 : decode cX8_tower 1 = .ok (.invokestatic 51, 3) := by decide +kernel
theorem dX8_tower_4 : decode cX8_tower 4 = .ok (.aload_n 0, 1) := by decide +kernel
theorem dX8_tower_5 : decode cX8_tower 5 = .ok (.getfield 10, 3) := by decide +kernel
theorem dX8_tower_8 : decode cX8_tower 8 = .ok (.getfield 63, 3) := by decide +kernel
theorem dX8_tower_11 : decode cX8_tower 11 = .ok (.iload_n 1, 1) := by decide +kernel
theorem dX8_tower_12 : decode cX8_tower 12 = .ok (.iaload, 1) := by decide +kernel
theorem dX8_tower_13 : decode cX8_tower 13 = .ok (.iconst (-1), 1) := by decide +kernel
theorem dX8_tower_14 : decode cX8_tower 14 = .ok (.if_icmp .ne 7, 3) := by decide +kernel
theorem dX8_tower_17 : decode cX8_tower 17 = .ok (.iconst 1, 1) := by decide +kernel
theorem dX8_tower_18 : decode cX8_tower 18 = .ok (.goto 4, 3) := by decide +kernel
theorem dX8_tower_21 : decode cX8_tower 21 = .ok (.iconst 0, 1) := by decide +kernel
theorem dX8_tower_22 : decode cX8_tower 22 = .ok (.invokestatic 66, 3) := by decide +kernel
theorem dX8_tower_25 : decode cX8_tower 25 = .ok (.aload_n 0, 1) := by decide +kernel
theorem dX8_tower_26 : decode cX8_tower 26 = .ok (.getfield 10, 3) := by decide +kernel
theorem dX8_tower_29 : decode cX8_tower 29 = .ok (.getfield 69, 3) := by decide +kernel
theorem dX8_tower_32 : decode cX8_tower 32 = .ok (.iload_n 1, 1) := by decide +kernel
theorem dX8_tower_33 : decode cX8_tower 33 = .ok (.baload, 1) := by decide +kernel
theorem dX8_tower_34 : decode cX8_tower 34 = .ok (.istore_n 3, 1) := by decide +kernel
theorem dX8_tower_35 : decode cX8_tower 35 = .ok (.aload_n 0, 1) := by decide +kernel
theorem dX8_tower_36 : decode cX8_tower 36 = .ok (.getfield 10, 3) := by decide +kernel
theorem dX8_tower_39 : decode cX8_tower 39 = .ok (.getfield 69, 3) := by decide +kernel
theorem dX8_tower_42 : decode cX8_tower 42 = .ok (.iload_n 1, 1) := by decide +kernel
theorem dX8_tower_43 : decode cX8_tower 43 = .ok (.iload_n 2, 1) := by decide +kernel
theorem dX8_tower_44 : decode cX8_tower 44 = .ok (.bastore, 1) := by decide +kernel
theorem dX8_tower_45 : decode cX8_tower 45 = .ok (.iload_n 3, 1) := by decide +kernel
theorem dX8_tower_46 : decode cX8_tower 46 = .ok (.ireturn, 1) := by decide +kernel
theorem dX8_pad_0 : decode cX8_pad 0 = .ok (.iload_n 1, 1) := by decide +kernel
theorem dX8_pad_1 : decode cX8_pad 1 = .ok (.invokestatic 51, 3) := by decide +kernel
theorem dX8_pad_4 : decode cX8_pad 4 = .ok (.aload_n 0, 1) := by decide +kernel
theorem dX8_pad_5 : decode cX8_pad 5 = .ok (.getfield 10, 3) := by decide +kernel
theorem dX8_pad_8 : decode cX8_pad 8 = .ok (.getfield 69, 3) := by decide +kernel
theorem dX8_pad_11 : decode cX8_pad 11 = .ok (.iload_n 1, 1) := by decide +kernel
theorem dX8_pad_12 : decode cX8_pad 12 = .ok (.baload, 1) := by decide +kernel
theorem dX8_pad_13 : decode cX8_pad 13 = .ok (.ifCond .ne 20, 3) := by decide +kernel
theorem dX8_pad_16 : decode cX8_pad 16 = .ok (.aload_n 0, 1) := by decide +kernel
theorem dX8_pad_17 : decode cX8_pad 17 = .ok (.getfield 10, 3) := by decide +kernel
theorem dX8_pad_20 : decode cX8_pad 20 = .ok (.getfield 63, 3) := by decide +kernel
theorem dX8_pad_23 : decode cX8_pad 23 = .ok (.iload_n 1, 1) := by decide +kernel
theorem dX8_pad_24 : decode cX8_pad 24 = .ok (.iaload, 1) := by decide +kernel
theorem dX8_pad_25 : decode cX8_pad 25 = .ok (.iconst (-1), 1) := by decide +kernel
theorem dX8_pad_26 : decode cX8_pad 26 = .ok (.if_icmp .ne 7, 3) := by decide +kernel
theorem dX8_pad_29 : decode cX8_pad 29 = .ok (.iconst 1, 1) := by decide +kernel
theorem dX8_pad_30 : decode cX8_pad 30 = .ok (.goto 4, 3) := by decide +kernel
theorem dX8_pad_33 : decode cX8_pad 33 = .ok (.iconst 0, 1) := by decide +kernel
theorem dX8_pad_34 : decode cX8_pad 34 = .ok (.invokestatic 55, 3) := by decide +kernel
theorem dX8_pad_37 : decode cX8_pad 37 = .ok (.aload_n 0, 1) := by decide +kernel
theorem dX8_pad_38 : decode cX8_pad 38 = .ok (.getfield 10, 3) := by decide +kernel
theorem dX8_pad_41 : decode cX8_pad 41 = .ok (.getfield 73, 3) := by decide +kernel
theorem dX8_pad_44 : decode cX8_pad 44 = .ok (.iconst 5, 1) := by decide +kernel
theorem dX8_pad_45 : decode cX8_pad 45 = .ok (.if_icmp .ge 7, 3) := by decide +kernel
theorem dX8_pad_48 : decode cX8_pad 48 = .ok (.iconst 1, 1) := by decide +kernel
theorem dX8_pad_49 : decode cX8_pad 49 = .ok (.goto 4, 3) := by decide +kernel
theorem dX8_pad_52 : decode cX8_pad 52 = .ok (.iconst 0, 1) := by decide +kernel
theorem dX8_pad_53 : decode cX8_pad 53 = .ok (.invokestatic 66, 3) := by decide +kernel
theorem dX8_pad_56 : decode cX8_pad 56 = .ok (.aload_n 0, 1) := by decide +kernel
theorem dX8_pad_57 : decode cX8_pad 57 = .ok (.getfield 10, 3) := by decide +kernel
theorem dX8_pad_60 : decode cX8_pad 60 = .ok (.iload_n 1, 1) := by decide +kernel
theorem dX8_pad_61 : decode cX8_pad 61 = .ok (.invokevirtual 77, 3) := by decide +kernel
theorem dX8_pad_64 : decode cX8_pad 64 = .ok (.ireturn, 1) := by decide +kernel
theorem dX8_zone_0 : decode cX8_zone 0 = .ok (.iload_n 1, 1) := by decide +kernel
theorem dX8_zone_1 : decode cX8_zone 1 = .ok (.invokestatic 51, 3) := by decide +kernel
theorem dX8_zone_4 : decode cX8_zone 4 = .ok (.iload_n 2, 1) := by decide +kernel
theorem dX8_zone_5 : decode cX8_zone 5 = .ok (.ifCond .lt 23, 3) := by decide +kernel
theorem dX8_zone_8 : decode cX8_zone 8 = .ok (.iload_n 2, 1) := by decide +kernel
theorem dX8_zone_9 : decode cX8_zone 9 = .ok (.bipush 24, 2) := by decide +kernel
theorem dX8_zone_11 : decode cX8_zone 11 = .ok (.if_icmp .ge 17, 3) := by decide +kernel
theorem dX8_zone_14 : decode cX8_zone 14 = .ok (.iload_n 3, 1) := by decide +kernel
theorem dX8_zone_15 : decode cX8_zone 15 = .ok (.ifCond .lt 13, 3) := by decide +kernel
theorem dX8_zone_18 : decode cX8_zone 18 = .ok (.iload_n 3, 1) := by decide +kernel
theorem dX8_zone_19 : decode cX8_zone 19 = .ok (.bipush 24, 2) := by decide +kernel
theorem dX8_zone_21 : decode cX8_zone 21 = .ok (.if_icmp .ge 7, 3) := by decide +kernel
theorem dX8_zone_24 : decode cX8_zone 24 = .ok (.iconst 1, 1) := by decide +kernel
theorem dX8_zone_25 : decode cX8_zone 25 = .ok (.goto 4, 3) := by decide +kernel
theorem dX8_zone_28 : decode cX8_zone 28 = .ok (.iconst 0, 1) := by decide +kernel
theorem dX8_zone_29 : decode cX8_zone 29 = .ok (.invokestatic 55, 3) := by decide +kernel
theorem dX8_zone_32 : decode cX8_zone 32 = .ok (.iload 4, 2) := by decide +kernel
theorem dX8_zone_34 : decode cX8_zone 34 = .ok (.iconst 1, 1) := by decide +kernel
theorem dX8_zone_35 : decode cX8_zone 35 = .ok (.if_icmp .lt 13, 3) := by decide +kernel
theorem dX8_zone_38 : decode cX8_zone 38 = .ok (.iload 4, 2) := by decide +kernel
theorem dX8_zone_40 : decode cX8_zone 40 = .ok (.iconst 4, 1) := by decide +kernel
theorem dX8_zone_41 : decode cX8_zone 41 = .ok (.if_icmp .gt 7, 3) := by decide +kernel
theorem dX8_zone_44 : decode cX8_zone 44 = .ok (.iconst 1, 1) := by decide +kernel
theorem dX8_zone_45 : decode cX8_zone 45 = .ok (.goto 4, 3) := by decide +kernel
theorem dX8_zone_48 : decode cX8_zone 48 = .ok (.iconst 0, 1) := by decide +kernel
theorem dX8_zone_49 : decode cX8_zone 49 = .ok (.invokestatic 55, 3) := by decide +kernel
theorem dX8_zone_52 : decode cX8_zone 52 = .ok (.aload_n 0, 1) := by decide +kernel
theorem dX8_zone_53 : decode cX8_zone 53 = .ok (.getfield 10, 3) := by decide +kernel
theorem dX8_zone_56 : decode cX8_zone 56 = .ok (.getfield 81, 3) := by decide +kernel
theorem dX8_zone_59 : decode cX8_zone 59 = .ok (.bipush 6, 2) := by decide +kernel
theorem dX8_zone_61 : decode cX8_zone 61 = .ok (.if_icmp .ge 7, 3) := by decide +kernel
theorem dX8_zone_64 : decode cX8_zone 64 = .ok (.iconst 1, 1) := by decide +kernel
theorem dX8_zone_65 : decode cX8_zone 65 = .ok (.goto 4, 3) := by decide +kernel
theorem dX8_zone_68 : decode cX8_zone 68 = .ok (.iconst 0, 1) := by decide +kernel
theorem dX8_zone_69 : decode cX8_zone 69 = .ok (.invokestatic 66, 3) := by decide +kernel
theorem dX8_zone_72 : decode cX8_zone 72 = .ok (.aload_n 0, 1) := by decide +kernel
theorem dX8_zone_73 : decode cX8_zone 73 = .ok (.getfield 10, 3) := by decide +kernel
theorem dX8_zone_76 : decode cX8_zone 76 = .ok (.iload_n 1, 1) := by decide +kernel
theorem dX8_zone_77 : decode cX8_zone 77 = .ok (.iload_n 2, 1) := by decide +kernel
theorem dX8_zone_78 : decode cX8_zone 78 = .ok (.iload_n 3, 1) := by decide +kernel
theorem dX8_zone_79 : decode cX8_zone 79 = .ok (.iload 4, 2) := by decide +kernel
theorem dX8_zone_81 : decode cX8_zone 81 = .ok (.invokevirtual 84, 3) := by decide +kernel
theorem dX8_zone_84 : decode cX8_zone 84 = .ok (.ireturn, 1) := by decide +kernel
theorem dX8_wind_0 : decode cX8_wind 0 = .ok (.iload_n 1, 1) := by decide +kernel
theorem dX8_wind_1 : decode cX8_wind 1 = .ok (.ifCond .lt 21, 3) := by decide +kernel
theorem dX8_wind_4 : decode cX8_wind 4 = .ok (.iload_n 1, 1) := by decide +kernel
theorem dX8_wind_5 : decode cX8_wind 5 = .ok (.iconst 4, 1) := by decide +kernel
theorem dX8_wind_6 : decode cX8_wind 6 = .ok (.if_icmp .ge 16, 3) := by decide +kernel
theorem dX8_wind_9 : decode cX8_wind 9 = .ok (.iload_n 2, 1) := by decide +kernel
theorem dX8_wind_10 : decode cX8_wind 10 = .ok (.ifCond .lt 12, 3) := by decide +kernel
theorem dX8_wind_13 : decode cX8_wind 13 = .ok (.iload_n 2, 1) := by decide +kernel
theorem dX8_wind_14 : decode cX8_wind 14 = .ok (.iconst 3, 1) := by decide +kernel
theorem dX8_wind_15 : decode cX8_wind 15 = .ok (.if_icmp .gt 7, 3) := by decide +kernel
theorem dX8_wind_18 : decode cX8_wind 18 = .ok (.iconst 1, 1) := by decide +kernel
theorem dX8_wind_19 : decode cX8_wind 19 = .ok (.goto 4, 3) := by decide +kernel
theorem dX8_wind_22 : decode cX8_wind 22 = .ok (.iconst 0, 1) := by decide +kernel
theorem dX8_wind_23 : decode cX8_wind 23 = .ok (.invokestatic 55, 3) := by decide +kernel
theorem dX8_wind_26 : decode cX8_wind 26 = .ok (.aload_n 0, 1) := by decide +kernel
theorem dX8_wind_27 : decode cX8_wind 27 = .ok (.getfield 10, 3) := by decide +kernel
theorem dX8_wind_30 : decode cX8_wind 30 = .ok (.getfield 88, 3) := by decide +kernel
theorem dX8_wind_33 : decode cX8_wind 33 = .ok (.istore_n 3, 1) := by decide +kernel
theorem dX8_wind_34 : decode cX8_wind 34 = .ok (.aload_n 0, 1) := by decide +kernel
theorem dX8_wind_35 : decode cX8_wind 35 = .ok (.getfield 10, 3) := by decide +kernel
theorem dX8_wind_38 : decode cX8_wind 38 = .ok (.iload_n 1, 1) := by decide +kernel
theorem dX8_wind_39 : decode cX8_wind 39 = .ok (.putfield 91, 3) := by decide +kernel
theorem dX8_wind_42 : decode cX8_wind 42 = .ok (.aload_n 0, 1) := by decide +kernel
theorem dX8_wind_43 : decode cX8_wind 43 = .ok (.getfield 10, 3) := by decide +kernel
theorem dX8_wind_46 : decode cX8_wind 46 = .ok (.iload_n 2, 1) := by decide +kernel
theorem dX8_wind_47 : decode cX8_wind 47 = .ok (.putfield 88, 3) := by decide +kernel
theorem dX8_wind_50 : decode cX8_wind 50 = .ok (.iload_n 3, 1) := by decide +kernel
theorem dX8_wind_51 : decode cX8_wind 51 = .ok (.ireturn, 1) := by decide +kernel
theorem dX8_craft_0 : decode cX8_craft 0 = .ok (.iload_n 1, 1) := by decide +kernel
theorem dX8_craft_1 : decode cX8_craft 1 = .ok (.ifCond .lt 18, 3) := by decide +kernel
theorem dX8_craft_4 : decode cX8_craft 4 = .ok (.iload_n 1, 1) := by decide +kernel
theorem dX8_craft_5 : decode cX8_craft 5 = .ok (.aload_n 0, 1) := by decide +kernel
theorem dX8_craft_6 : decode cX8_craft 6 = .ok (.getfield 10, 3) := by decide +kernel
theorem dX8_craft_9 : decode cX8_craft 9 = .ok (.getfield 73, 3) := by decide +kernel
theorem dX8_craft_12 : decode cX8_craft 12 = .ok (.if_icmp .ge 7, 3) := by decide +kernel
theorem dX8_craft_15 : decode cX8_craft 15 = .ok (.iconst 1, 1) := by decide +kernel
theorem dX8_craft_16 : decode cX8_craft 16 = .ok (.goto 4, 3) := by decide +kernel
theorem dX8_craft_19 : decode cX8_craft 19 = .ok (.iconst 0, 1) := by decide +kernel
theorem dX8_craft_20 : decode cX8_craft 20 = .ok (.invokestatic 94, 3) := by decide +kernel
theorem dX8_craft_23 : decode cX8_craft 23 = .ok (.iload_n 2, 1) := by decide +kernel
theorem dX8_craft_24 : decode cX8_craft 24 = .ok (.ifCond .lt 12, 3) := by decide +kernel
theorem dX8_craft_27 : decode cX8_craft 27 = .ok (.iload_n 2, 1) := by decide +kernel
theorem dX8_craft_28 : decode cX8_craft 28 = .ok (.iconst 3, 1) := by decide +kernel
theorem dX8_craft_29 : decode cX8_craft 29 = .ok (.if_icmp .gt 7, 3) := by decide +kernel
theorem dX8_craft_32 : decode cX8_craft 32 = .ok (.iconst 1, 1) := by decide +kernel
theorem dX8_craft_33 : decode cX8_craft 33 = .ok (.goto 4, 3) := by decide +kernel
theorem dX8_craft_36 : decode cX8_craft 36 = .ok (.iconst 0, 1) := by decide +kernel
theorem dX8_craft_37 : decode cX8_craft 37 = .ok (.invokestatic 55, 3) := by decide +kernel
theorem dX8_craft_40 : decode cX8_craft 40 = .ok (.iload_n 3, 1) := by decide +kernel
theorem dX8_craft_41 : decode cX8_craft 41 = .ok (.bipush 10, 2) := by decide +kernel
theorem dX8_craft_43 : decode cX8_craft 43 = .ok (.if_icmp .lt 14, 3) := by decide +kernel
theorem dX8_craft_46 : decode cX8_craft 46 = .ok (.iload_n 3, 1) := by decide +kernel
theorem dX8_craft_47 : decode cX8_craft 47 = .ok (.sipush 200, 3) := by decide +kernel
theorem dX8_craft_50 : decode cX8_craft 50 = .ok (.if_icmp .gt 7, 3) := by decide +kernel
theorem dX8_craft_53 : decode cX8_craft 53 = .ok (.iconst 1, 1) := by decide +kernel
theorem dX8_craft_54 : decode cX8_craft 54 = .ok (.goto 4, 3) := by decide +kernel
theorem dX8_craft_57 : decode cX8_craft 57 = .ok (.iconst 0, 1) := by decide +kernel
theorem dX8_craft_58 : decode cX8_craft 58 = .ok (.invokestatic 55, 3) := by decide +kernel
theorem dX8_craft_61 : decode cX8_craft 61 = .ok (.iload 4, 2) := by decide +kernel
theorem dX8_craft_63 : decode cX8_craft 63 = .ok (.ifCond .lt 14, 3) := by decide +kernel
theorem dX8_craft_66 : decode cX8_craft 66 = .ok (.iload 4, 2) := by decide +kernel
theorem dX8_craft_68 : decode cX8_craft 68 = .ok (.bipush 9, 2) := by decide +kernel
theorem dX8_craft_70 : decode cX8_craft 70 = .ok (.if_icmp .gt 7, 3) := by decide +kernel
theorem dX8_craft_73 : decode cX8_craft 73 = .ok (.iconst 1, 1) := by decide +kernel
theorem dX8_craft_74 : decode cX8_craft 74 = .ok (.goto 4, 3) := by decide +kernel
theorem dX8_craft_77 : decode cX8_craft 77 = .ok (.iconst 0, 1) := by decide +kernel
theorem dX8_craft_78 : decode cX8_craft 78 = .ok (.invokestatic 55, 3) := by decide +kernel
theorem dX8_craft_81 : decode cX8_craft 81 = .ok (.aload_n 0, 1) := by decide +kernel
theorem dX8_craft_82 : decode cX8_craft 82 = .ok (.getfield 21, 3) := by decide +kernel
theorem dX8_craft_85 : decode cX8_craft 85 = .ok (.getfield 97, 3) := by decide +kernel
theorem dX8_craft_88 : decode cX8_craft 88 = .ok (.bipush 6, 2) := by decide +kernel
theorem dX8_craft_90 : decode cX8_craft 90 = .ok (.if_icmp .ge 7, 3) := by decide +kernel
theorem dX8_craft_93 : decode cX8_craft 93 = .ok (.iconst 1, 1) := by decide +kernel
theorem dX8_craft_94 : decode cX8_craft 94 = .ok (.goto 4, 3) := by decide +kernel
theorem dX8_craft_97 : decode cX8_craft 97 = .ok (.iconst 0, 1) := by decide +kernel
theorem dX8_craft_98 : decode cX8_craft 98 = .ok (.invokestatic 66, 3) := by decide +kernel
theorem dX8_craft_101 : decode cX8_craft 101 = .ok (.aload_n 0, 1) := by decide +kernel
theorem dX8_craft_102 : decode cX8_craft 102 = .ok (.getfield 21, 3) := by decide +kernel
theorem dX8_craft_105 : decode cX8_craft 105 = .ok (.getfield 100, 3) := by decide +kernel
theorem dX8_craft_108 : decode cX8_craft 108 = .ok (.aload_n 0, 1) := by decide +kernel
theorem dX8_craft_109 : decode cX8_craft 109 = .ok (.getfield 21, 3) := by decide +kernel
theorem dX8_craft_112 : decode cX8_craft 112 = .ok (.getfield 97, 3) := by decide +kernel
theorem dX8_craft_115 : decode cX8_craft 115 = .ok (.aaload, 1) := by decide +kernel
theorem dX8_craft_116 : decode cX8_craft 116 = .ok (.astore 5, 2) := by decide +kernel
theorem dX8_craft_118 : decode cX8_craft 118 = .ok (.aload 5, 2) := by decide +kernel
theorem dX8_craft_120 : decode cX8_craft 120 = .ok (.iload_n 2, 1) := by decide +kernel
theorem dX8_craft_121 : decode cX8_craft 121 = .ok (.putfield 104, 3) := by decide +kernel
theorem dX8_craft_124 : decode cX8_craft 124 = .ok (.aload 5, 2) := by decide +kernel
theorem dX8_craft_126 : decode cX8_craft 126 = .ok (.iload_n 1, 1) := by decide +kernel
theorem dX8_craft_127 : decode cX8_craft 127 = .ok (.putfield 109, 3) := by decide +kernel
theorem dX8_craft_130 : decode cX8_craft 130 = .ok (.aload 5, 2) := by decide +kernel
theorem dX8_craft_132 : decode cX8_craft 132 = .ok (.aload_n 0, 1) := by decide +kernel
theorem dX8_craft_133 : decode cX8_craft 133 = .ok (.getfield 10, 3) := by decide +kernel
theorem dX8_craft_136 : decode cX8_craft 136 = .ok (.getfield 112, 3) := by decide +kernel
theorem dX8_craft_139 : decode cX8_craft 139 = .ok (.iload_n 1, 1) := by decide +kernel
theorem dX8_craft_140 : decode cX8_craft 140 = .ok (.iaload, 1) := by decide +kernel
theorem dX8_craft_141 : decode cX8_craft 141 = .ok (.putfield 115, 3) := by decide +kernel
theorem dX8_craft_144 : decode cX8_craft 144 = .ok (.aload 5, 2) := by decide +kernel
theorem dX8_craft_146 : decode cX8_craft 146 = .ok (.iload_n 3, 1) := by decide +kernel
theorem dX8_craft_147 : decode cX8_craft 147 = .ok (.putfield 118, 3) := by decide +kernel
theorem dX8_craft_150 : decode cX8_craft 150 = .ok (.aload 5, 2) := by decide +kernel
theorem dX8_craft_152 : decode cX8_craft 152 = .ok (.iload_n 3, 1) := by decide +kernel
theorem dX8_craft_153 : decode cX8_craft 153 = .ok (.putfield 121, 3) := by decide +kernel
theorem dX8_craft_156 : decode cX8_craft 156 = .ok (.aload 5, 2) := by decide +kernel
theorem dX8_craft_158 : decode cX8_craft 158 = .ok (.iload 4, 2) := by decide +kernel
theorem dX8_craft_160 : decode cX8_craft 160 = .ok (.putfield 124, 3) := by decide +kernel
theorem dX8_craft_163 : decode cX8_craft 163 = .ok (.aload 5, 2) := by decide +kernel
theorem dX8_craft_165 : decode cX8_craft 165 = .ok (.aload 5, 2) := by decide +kernel
theorem dX8_craft_167 : decode cX8_craft 167 = .ok (.getfield 115, 3) := by decide +kernel
theorem dX8_craft_170 : decode cX8_craft 170 = .ok (.putfield 127, 3) := by decide +kernel
theorem dX8_craft_173 : decode cX8_craft 173 = .ok (.aload_n 0, 1) := by decide +kernel
theorem dX8_craft_174 : decode cX8_craft 174 = .ok (.getfield 21, 3) := by decide +kernel
theorem dX8_craft_177 : decode cX8_craft 177 = .ok (.dup, 1) := by decide +kernel
theorem dX8_craft_178 : decode cX8_craft 178 = .ok (.getfield 97, 3) := by decide +kernel
theorem dX8_craft_181 : decode cX8_craft 181 = .ok (.dup_x1, 1) := by decide +kernel
theorem dX8_craft_182 : decode cX8_craft 182 = .ok (.iconst 1, 1) := by decide +kernel
theorem dX8_craft_183 : decode cX8_craft 183 = .ok (.iadd, 1) := by decide +kernel
theorem dX8_craft_184 : decode cX8_craft 184 = .ok (.putfield 97, 3) := by decide +kernel
theorem dX8_craft_187 : decode cX8_craft 187 = .ok (.ireturn, 1) := by decide +kernel
theorem dX8_link_0 : decode cX8_link 0 = .ok (.aload_n 0, 1) := by decide +kernel
theorem dX8_link_1 : decode cX8_link 1 = .ok (.iload_n 1, 1) := by decide +kernel
theorem dX8_link_2 : decode cX8_link 2 = .ok (.invokevirtual 130, 3) := by decide +kernel
theorem dX8_link_5 : decode cX8_link 5 = .ok (.aload_n 0, 1) := by decide +kernel
theorem dX8_link_6 : decode cX8_link 6 = .ok (.getfield 21, 3) := by decide +kernel
theorem dX8_link_9 : decode cX8_link 9 = .ok (.getfield 100, 3) := by decide +kernel
theorem dX8_link_12 : decode cX8_link 12 = .ok (.iload_n 1, 1) := by decide +kernel
theorem dX8_link_13 : decode cX8_link 13 = .ok (.aaload, 1) := by decide +kernel
theorem dX8_link_14 : decode cX8_link 14 = .ok (.getfield 133, 3) := by decide +kernel
theorem dX8_link_17 : decode cX8_link 17 = .ok (.istore_n 3, 1) := by decide +kernel
theorem dX8_link_18 : decode cX8_link 18 = .ok (.aload_n 0, 1) := by decide +kernel
theorem dX8_link_19 : decode cX8_link 19 = .ok (.getfield 21, 3) := by decide +kernel
theorem dX8_link_22 : decode cX8_link 22 = .ok (.getfield 100, 3) := by decide +kernel
theorem dX8_link_25 : decode cX8_link 25 = .ok (.iload_n 1, 1) := by decide +kernel
theorem dX8_link_26 : decode cX8_link 26 = .ok (.aaload, 1) := by decide +kernel
theorem dX8_link_27 : decode cX8_link 27 = .ok (.iload_n 2, 1) := by decide +kernel
theorem dX8_link_28 : decode cX8_link 28 = .ok (.putfield 133, 3) := by decide +kernel
theorem dX8_link_31 : decode cX8_link 31 = .ok (.iload_n 3, 1) := by decide +kernel
theorem dX8_link_32 : decode cX8_link 32 = .ok (.ireturn, 1) := by decide +kernel
theorem dX8_fetch_0 : decode cX8_fetch 0 = .ok (.aload_n 0, 1) := by decide +kernel
theorem dX8_fetch_1 : decode cX8_fetch 1 = .ok (.iload_n 1, 1) := by decide +kernel
theorem dX8_fetch_2 : decode cX8_fetch 2 = .ok (.invokevirtual 130, 3) := by decide +kernel
theorem dX8_fetch_5 : decode cX8_fetch 5 = .ok (.aload_n 0, 1) := by decide +kernel
theorem dX8_fetch_6 : decode cX8_fetch 6 = .ok (.getfield 21, 3) := by decide +kernel
theorem dX8_fetch_9 : decode cX8_fetch 9 = .ok (.getfield 100, 3) := by decide +kernel
theorem dX8_fetch_12 : decode cX8_fetch 12 = .ok (.iload_n 1, 1) := by decide +kernel
theorem dX8_fetch_13 : decode cX8_fetch 13 = .ok (.aaload, 1) := by decide +kernel
theorem dX8_fetch_14 : decode cX8_fetch 14 = .ok (.astore_n 2, 1) := by decide +kernel
theorem dX8_fetch_15 : decode cX8_fetch 15 = .ok (.aload_n 2, 1) := by decide +kernel
theorem dX8_fetch_16 : decode cX8_fetch 16 = .ok (.getfield 137, 3) := by decide +kernel
theorem dX8_fetch_19 : decode cX8_fetch 19 = .ok (.iconst 2, 1) := by decide +kernel
theorem dX8_fetch_20 : decode cX8_fetch 20 = .ok (.if_icmp .ne 7, 3) := by decide +kernel
theorem dX8_fetch_23 : decode cX8_fetch 23 = .ok (.iconst 1, 1) := by decide +kernel
theorem dX8_fetch_24 : decode cX8_fetch 24 = .ok (.goto 4, 3) := by decide +kernel
theorem dX8_fetch_27 : decode cX8_fetch 27 = .ok (.iconst 0, 1) := by decide +kernel
theorem dX8_fetch_28 : decode cX8_fetch 28 = .ok (.invokestatic 66, 3) := by decide +kernel
theorem dX8_fetch_31 : decode cX8_fetch 31 = .ok (.aload_n 2, 1) := by decide +kernel
theorem dX8_fetch_32 : decode cX8_fetch 32 = .ok (.getfield 127, 3) := by decide +kernel
theorem dX8_fetch_35 : decode cX8_fetch 35 = .ok (.istore_n 3, 1) := by decide +kernel
theorem dX8_fetch_36 : decode cX8_fetch 36 = .ok (.aload_n 2, 1) := by decide +kernel
theorem dX8_fetch_37 : decode cX8_fetch 37 = .ok (.iconst 0, 1) := by decide +kernel
theorem dX8_fetch_38 : decode cX8_fetch 38 = .ok (.putfield 137, 3) := by decide +kernel
theorem dX8_fetch_41 : decode cX8_fetch 41 = .ok (.aload_n 2, 1) := by decide +kernel
theorem dX8_fetch_42 : decode cX8_fetch 42 = .ok (.aload_n 2, 1) := by decide +kernel
theorem dX8_fetch_43 : decode cX8_fetch 43 = .ok (.getfield 115, 3) := by decide +kernel
theorem dX8_fetch_46 : decode cX8_fetch 46 = .ok (.putfield 127, 3) := by decide +kernel
theorem dX8_fetch_49 : decode cX8_fetch 49 = .ok (.iload_n 3, 1) := by decide +kernel
theorem dX8_fetch_50 : decode cX8_fetch 50 = .ok (.ireturn, 1) := by decide +kernel
theorem dX8_draft_0 : decode cX8_draft 0 = .ok (.iload_n 1, 1) := by decide +kernel
theorem dX8_draft_1 : decode cX8_draft 1 = .ok (.invokestatic 51, 3) := by decide +kernel
theorem dX8_draft_4 : decode cX8_draft 4 = .ok (.aload_n 0, 1) := by decide +kernel
theorem dX8_draft_5 : decode cX8_draft 5 = .ok (.getfield 31, 3) := by decide +kernel
theorem dX8_draft_8 : decode cX8_draft 8 = .ok (.getfield 140, 3) := by decide +kernel
theorem dX8_draft_11 : decode cX8_draft 11 = .ok (.bipush 10, 2) := by decide +kernel
theorem dX8_draft_13 : decode cX8_draft 13 = .ok (.if_icmp .ge 7, 3) := by decide +kernel
theorem dX8_draft_16 : decode cX8_draft 16 = .ok (.iconst 1, 1) := by decide +kernel
theorem dX8_draft_17 : decode cX8_draft 17 = .ok (.goto 4, 3) := by decide +kernel
theorem dX8_draft_20 : decode cX8_draft 20 = .ok (.iconst 0, 1) := by decide +kernel
theorem dX8_draft_21 : decode cX8_draft 21 = .ok (.invokestatic 66, 3) := by decide +kernel
theorem dX8_draft_24 : decode cX8_draft 24 = .ok (.aload_n 0, 1) := by decide +kernel
theorem dX8_draft_25 : decode cX8_draft 25 = .ok (.getfield 31, 3) := by decide +kernel
theorem dX8_draft_28 : decode cX8_draft 28 = .ok (.getfield 143, 3) := by decide +kernel
theorem dX8_draft_31 : decode cX8_draft 31 = .ok (.aload_n 0, 1) := by decide +kernel
theorem dX8_draft_32 : decode cX8_draft 32 = .ok (.getfield 31, 3) := by decide +kernel
theorem dX8_draft_35 : decode cX8_draft 35 = .ok (.getfield 140, 3) := by decide +kernel
theorem dX8_draft_38 : decode cX8_draft 38 = .ok (.iload_n 1, 1) := by decide +kernel
theorem dX8_draft_39 : decode cX8_draft 39 = .ok (.iastore, 1) := by decide +kernel
theorem dX8_draft_40 : decode cX8_draft 40 = .ok (.aload_n 0, 1) := by decide +kernel
theorem dX8_draft_41 : decode cX8_draft 41 = .ok (.getfield 31, 3) := by decide +kernel
theorem dX8_draft_44 : decode cX8_draft 44 = .ok (.dup, 1) := by decide +kernel
theorem dX8_draft_45 : decode cX8_draft 45 = .ok (.getfield 140, 3) := by decide +kernel
theorem dX8_draft_48 : decode cX8_draft 48 = .ok (.iconst 1, 1) := by decide +kernel
theorem dX8_draft_49 : decode cX8_draft 49 = .ok (.iadd, 1) := by decide +kernel
theorem dX8_draft_50 : decode cX8_draft 50 = .ok (.putfield 140, 3) := by decide +kernel
theorem dX8_draft_53 : decode cX8_draft 53 = .ok (.aload_n 0, 1) := by decide +kernel
theorem dX8_draft_54 : decode cX8_draft 54 = .ok (.getfield 31, 3) := by decide +kernel
theorem dX8_draft_57 : decode cX8_draft 57 = .ok (.getfield 140, 3) := by decide +kernel
theorem dX8_draft_60 : decode cX8_draft 60 = .ok (.ireturn, 1) := by decide +kernel
theorem dX8_clear_0 : decode cX8_clear 0 = .ok (.aload_n 0, 1) := by decide +kernel
theorem dX8_clear_1 : decode cX8_clear 1 = .ok (.getfield 31, 3) := by decide +kernel
theorem dX8_clear_4 : decode cX8_clear 4 = .ok (.getfield 140, 3) := by decide +kernel
theorem dX8_clear_7 : decode cX8_clear 7 = .ok (.istore_n 1, 1) := by decide +kernel
theorem dX8_clear_8 : decode cX8_clear 8 = .ok (.aload_n 0, 1) := by decide +kernel
theorem dX8_clear_9 : decode cX8_clear 9 = .ok (.getfield 31, 3) := by decide +kernel
theorem dX8_clear_12 : decode cX8_clear 12 = .ok (.iconst 0, 1) := by decide +kernel
theorem dX8_clear_13 : decode cX8_clear 13 = .ok (.putfield 140, 3) := by decide +kernel
theorem dX8_clear_16 : decode cX8_clear 16 = .ok (.iload_n 1, 1) := by decide +kernel
theorem dX8_clear_17 : decode cX8_clear 17 = .ok (.ireturn, 1) := by decide +kernel
theorem dX8_ask_0 : decode cX8_ask 0 = .ok (.aload_n 0, 1) := by decide +kernel
theorem dX8_ask_1 : decode cX8_ask 1 = .ok (.iload_n 1, 1) := by decide +kernel
theorem dX8_ask_2 : decode cX8_ask 2 = .ok (.invokevirtual 130, 3) := by decide +kernel
theorem dX8_ask_5 : decode cX8_ask 5 = .ok (.aload_n 0, 1) := by decide +kernel
theorem dX8_ask_6 : decode cX8_ask 6 = .ok (.iload_n 2, 1) := by decide +kernel
theorem dX8_ask_7 : decode cX8_ask 7 = .ok (.invokevirtual 146, 3) := by decide +kernel
theorem dX8_ask_10 : decode cX8_ask 10 = .ok (.aload_n 0, 1) := by decide +kernel
theorem dX8_ask_11 : decode cX8_ask 11 = .ok (.getfield 10, 3) := by decide +kernel
theorem dX8_ask_14 : decode cX8_ask 14 = .ok (.aload_n 0, 1) := by decide +kernel
theorem dX8_ask_15 : decode cX8_ask 15 = .ok (.getfield 31, 3) := by decide +kernel
theorem dX8_ask_18 : decode cX8_ask 18 = .ok (.invokevirtual 149, 3) := by decide +kernel
theorem dX8_ask_21 : decode cX8_ask 21 = .ok (.ifCond .eq 19, 3) := by decide +kernel
theorem dX8_ask_24 : decode cX8_ask 24 = .ok (.aload_n 0, 1) := by decide +kernel
theorem dX8_ask_25 : decode cX8_ask 25 = .ok (.getfield 21, 3) := by decide +kernel
theorem dX8_ask_28 : decode cX8_ask 28 = .ok (.getfield 153, 3) := by decide +kernel
theorem dX8_ask_31 : decode cX8_ask 31 = .ok (.bipush 12, 2) := by decide +kernel
theorem dX8_ask_33 : decode cX8_ask 33 = .ok (.if_icmp .ge 7, 3) := by decide +kernel
theorem dX8_ask_36 : decode cX8_ask 36 = .ok (.iconst 1, 1) := by decide +kernel
theorem dX8_ask_37 : decode cX8_ask 37 = .ok (.goto 4, 3) := by decide +kernel
theorem dX8_ask_40 : decode cX8_ask 40 = .ok (.iconst 0, 1) := by decide +kernel
theorem dX8_ask_41 : decode cX8_ask 41 = .ok (.invokestatic 66, 3) := by decide +kernel
theorem dX8_ask_44 : decode cX8_ask 44 = .ok (.aload_n 0, 1) := by decide +kernel
theorem dX8_ask_45 : decode cX8_ask 45 = .ok (.getfield 40, 3) := by decide +kernel
theorem dX8_ask_48 : decode cX8_ask 48 = .ok (.iload_n 1, 1) := by decide +kernel
theorem dX8_ask_49 : decode cX8_ask 49 = .ok (.aload_n 0, 1) := by decide +kernel
theorem dX8_ask_50 : decode cX8_ask 50 = .ok (.getfield 31, 3) := by decide +kernel
theorem dX8_ask_53 : decode cX8_ask 53 = .ok (.iload_n 2, 1) := by decide +kernel
theorem dX8_ask_54 : decode cX8_ask 54 = .ok (.invokevirtual 156, 3) := by decide +kernel
theorem dX8_ask_57 : decode cX8_ask 57 = .ok (.istore_n 3, 1) := by decide +kernel
theorem dX8_ask_58 : decode cX8_ask 58 = .ok (.iload_n 3, 1) := by decide +kernel
theorem dX8_ask_59 : decode cX8_ask 59 = .ok (.ifCond .eq 7, 3) := by decide +kernel
theorem dX8_ask_62 : decode cX8_ask 62 = .ok (.iconst (-1), 1) := by decide +kernel
theorem dX8_ask_63 : decode cX8_ask 63 = .ok (.iload_n 3, 1) := by decide +kernel
theorem dX8_ask_64 : decode cX8_ask 64 = .ok (.isub, 1) := by decide +kernel
theorem dX8_ask_65 : decode cX8_ask 65 = .ok (.ireturn, 1) := by decide +kernel
theorem dX8_ask_66 : decode cX8_ask 66 = .ok (.aload_n 0, 1) := by decide +kernel
theorem dX8_ask_67 : decode cX8_ask 67 = .ok (.getfield 21, 3) := by decide +kernel
theorem dX8_ask_70 : decode cX8_ask 70 = .ok (.getfield 160, 3) := by decide +kernel
theorem dX8_ask_73 : decode cX8_ask 73 = .ok (.aload_n 0, 1) := by decide +kernel
theorem dX8_ask_74 : decode cX8_ask 74 = .ok (.getfield 21, 3) := by decide +kernel
theorem dX8_ask_77 : decode cX8_ask 77 = .ok (.getfield 153, 3) := by decide +kernel
theorem dX8_ask_80 : decode cX8_ask 80 = .ok (.aaload, 1) := by decide +kernel
theorem dX8_ask_81 : decode cX8_ask 81 = .ok (.astore 4, 2) := by decide +kernel
theorem dX8_ask_83 : decode cX8_ask 83 = .ok (.aload 4, 2) := by decide +kernel
theorem dX8_ask_85 : decode cX8_ask 85 = .ok (.iload_n 1, 1) := by decide +kernel
theorem dX8_ask_86 : decode cX8_ask 86 = .ok (.putfield 164, 3) := by decide +kernel
theorem dX8_ask_89 : decode cX8_ask 89 = .ok (.aload 4, 2) := by decide +kernel
theorem dX8_ask_91 : decode cX8_ask 91 = .ok (.iload_n 2, 1) := by decide +kernel
theorem dX8_ask_92 : decode cX8_ask 92 = .ok (.putfield 169, 3) := by decide +kernel
theorem dX8_ask_95 : decode cX8_ask 95 = .ok (.aload 4, 2) := by decide +kernel
theorem dX8_ask_97 : decode cX8_ask 97 = .ok (.iconst 0, 1) := by decide +kernel
theorem dX8_ask_98 : decode cX8_ask 98 = .ok (.putfield 172, 3) := by decide +kernel
theorem dX8_ask_101 : decode cX8_ask 101 = .ok (.aload 4, 2) := by decide +kernel
theorem dX8_ask_103 : decode cX8_ask 103 = .ok (.getfield 173, 3) := by decide +kernel
theorem dX8_ask_106 : decode cX8_ask 106 = .ok (.aload_n 0, 1) := by decide +kernel
theorem dX8_ask_107 : decode cX8_ask 107 = .ok (.getfield 31, 3) := by decide +kernel
theorem dX8_ask_110 : decode cX8_ask 110 = .ok (.invokevirtual 176, 3) := by decide +kernel
theorem dX8_ask_113 : decode cX8_ask 113 = .ok (.aload_n 0, 1) := by decide +kernel
theorem dX8_ask_114 : decode cX8_ask 114 = .ok (.getfield 31, 3) := by decide +kernel
theorem dX8_ask_117 : decode cX8_ask 117 = .ok (.iconst 0, 1) := by decide +kernel
theorem dX8_ask_118 : decode cX8_ask 118 = .ok (.putfield 140, 3) := by decide +kernel
theorem dX8_ask_121 : decode cX8_ask 121 = .ok (.aload_n 0, 1) := by decide +kernel
theorem dX8_ask_122 : decode cX8_ask 122 = .ok (.getfield 21, 3) := by decide +kernel
theorem dX8_ask_125 : decode cX8_ask 125 = .ok (.dup, 1) := by decide +kernel
theorem dX8_ask_126 : decode cX8_ask 126 = .ok (.getfield 153, 3) := by decide +kernel
theorem dX8_ask_129 : decode cX8_ask 129 = .ok (.dup_x1, 1) := by decide +kernel
theorem dX8_ask_130 : decode cX8_ask 130 = .ok (.iconst 1, 1) := by decide +kernel
theorem dX8_ask_131 : decode cX8_ask 131 = .ok (.iadd, 1) := by decide +kernel
theorem dX8_ask_132 : decode cX8_ask 132 = .ok (.putfield 153, 3) := by decide +kernel
theorem dX8_ask_135 : decode cX8_ask 135 = .ok (.ireturn, 1) := by decide +kernel
theorem dX8_withdraw_0 : decode cX8_withdraw 0 = .ok (.aload_n 0, 1) := by decide +kernel
theorem dX8_withdraw_1 : decode cX8_withdraw 1 = .ok (.iload_n 1, 1) := by decide +kernel
theorem dX8_withdraw_2 : decode cX8_withdraw 2 = .ok (.invokevirtual 180, 3) := by decide +kernel
theorem dX8_withdraw_5 : decode cX8_withdraw 5 = .ok (.aload_n 0, 1) := by decide +kernel
theorem dX8_withdraw_6 : decode cX8_withdraw 6 = .ok (.getfield 21, 3) := by decide +kernel
theorem dX8_withdraw_9 : decode cX8_withdraw 9 = .ok (.getfield 160, 3) := by decide +kernel
theorem dX8_withdraw_12 : decode cX8_withdraw 12 = .ok (.iload_n 1, 1) := by decide +kernel
theorem dX8_withdraw_13 : decode cX8_withdraw 13 = .ok (.aaload, 1) := by decide +kernel
theorem dX8_withdraw_14 : decode cX8_withdraw 14 = .ok (.astore_n 2, 1) := by decide +kernel
theorem dX8_withdraw_15 : decode cX8_withdraw 15 = .ok (.aload_n 2, 1) := by decide +kernel
theorem dX8_withdraw_16 : decode cX8_withdraw 16 = .ok (.getfield 172, 3) := by decide +kernel
theorem dX8_withdraw_19 : decode cX8_withdraw 19 = .ok (.ifCond .ne 7, 3) := by decide +kernel
theorem dX8_withdraw_22 : decode cX8_withdraw 22 = .ok (.iconst 1, 1) := by decide +kernel
theorem dX8_withdraw_23 : decode cX8_withdraw 23 = .ok (.goto 4, 3) := by decide +kernel
theorem dX8_withdraw_26 : decode cX8_withdraw 26 = .ok (.iconst 0, 1) := by decide +kernel
theorem dX8_withdraw_27 : decode cX8_withdraw 27 = .ok (.invokestatic 66, 3) := by decide +kernel
theorem dX8_withdraw_30 : decode cX8_withdraw 30 = .ok (.aload_n 2, 1) := by decide +kernel
theorem dX8_withdraw_31 : decode cX8_withdraw 31 = .ok (.iconst 3, 1) := by decide +kernel
theorem dX8_withdraw_32 : decode cX8_withdraw 32 = .ok (.putfield 172, 3) := by decide +kernel
theorem dX8_withdraw_35 : decode cX8_withdraw 35 = .ok (.aload_n 2, 1) := by decide +kernel
theorem dX8_withdraw_36 : decode cX8_withdraw 36 = .ok (.getfield 169, 3) := by decide +kernel
theorem dX8_withdraw_39 : decode cX8_withdraw 39 = .ok (.ireturn, 1) := by decide +kernel
theorem dX8_pass_0 : decode cX8_pass 0 = .ok (.iload_n 1, 1) := by decide +kernel
theorem dX8_pass_1 : decode cX8_pass 1 = .ok (.invokestatic 183, 3) := by decide +kernel
theorem dX8_pass_4 : decode cX8_pass 4 = .ok (.aload_n 0, 1) := by decide +kernel
theorem dX8_pass_5 : decode cX8_pass 5 = .ok (.getfield 21, 3) := by decide +kernel
theorem dX8_pass_8 : decode cX8_pass 8 = .ok (.getfield 186, 3) := by decide +kernel
theorem dX8_pass_11 : decode cX8_pass 11 = .ok (.iload_n 1, 1) := by decide +kernel
theorem dX8_pass_12 : decode cX8_pass 12 = .ok (.iadd, 1) := by decide +kernel
theorem dX8_pass_13 : decode cX8_pass 13 = .ok (.sipush 5000, 3) := by decide +kernel
theorem dX8_pass_16 : decode cX8_pass 16 = .ok (.if_icmp .gt 7, 3) := by decide +kernel
theorem dX8_pass_19 : decode cX8_pass 19 = .ok (.iconst 1, 1) := by decide +kernel
theorem dX8_pass_20 : decode cX8_pass 20 = .ok (.goto 4, 3) := by decide +kernel
theorem dX8_pass_23 : decode cX8_pass 23 = .ok (.iconst 0, 1) := by decide +kernel
theorem dX8_pass_24 : decode cX8_pass 24 = .ok (.invokestatic 66, 3) := by decide +kernel
theorem dX8_pass_27 : decode cX8_pass 27 = .ok (.aload_n 0, 1) := by decide +kernel
theorem dX8_pass_28 : decode cX8_pass 28 = .ok (.getfield 21, 3) := by decide +kernel
theorem dX8_pass_31 : decode cX8_pass 31 = .ok (.iconst 2, 1) := by decide +kernel
theorem dX8_pass_32 : decode cX8_pass 32 = .ok (.invokevirtual 189, 3) := by decide +kernel
theorem dX8_pass_35 : decode cX8_pass 35 = .ok (.istore_n 2, 1) := by decide +kernel
theorem dX8_pass_36 : decode cX8_pass 36 = .ok (.aload_n 0, 1) := by decide +kernel
theorem dX8_pass_37 : decode cX8_pass 37 = .ok (.getfield 21, 3) := by decide +kernel
theorem dX8_pass_40 : decode cX8_pass 40 = .ok (.iload_n 1, 1) := by decide +kernel
theorem dX8_pass_41 : decode cX8_pass 41 = .ok (.invokevirtual 192, 3) := by decide +kernel
theorem dX8_pass_44 : decode cX8_pass 44 = .ok (.aload_n 0, 1) := by decide +kernel
theorem dX8_pass_45 : decode cX8_pass 45 = .ok (.getfield 21, 3) := by decide +kernel
theorem dX8_pass_48 : decode cX8_pass 48 = .ok (.iconst 2, 1) := by decide +kernel
theorem dX8_pass_49 : decode cX8_pass 49 = .ok (.invokevirtual 189, 3) := by decide +kernel
theorem dX8_pass_52 : decode cX8_pass 52 = .ok (.iload_n 2, 1) := by decide +kernel
theorem dX8_pass_53 : decode cX8_pass 53 = .ok (.isub, 1) := by decide +kernel
theorem dX8_pass_54 : decode cX8_pass 54 = .ok (.ireturn, 1) := by decide +kernel
theorem dX8_ofCell_0 : decode cX8_ofCell 0 = .ok (.iload_n 1, 1) := by decide +kernel
theorem dX8_ofCell_1 : decode cX8_ofCell 1 = .ok (.invokestatic 51, 3) := by decide +kernel
theorem dX8_ofCell_4 : decode cX8_ofCell 4 = .ok (.iload_n 2, 1) := by decide +kernel
theorem dX8_ofCell_5 : decode cX8_ofCell 5 = .ok (.tableswitch 116 0 5 #[39, 49, 67, 77, 87, 107], 39) := by decide +kernel
theorem dX8_ofCell_44 : decode cX8_ofCell 44 = .ok (.aload_n 0, 1) := by decide +kernel
theorem dX8_ofCell_45 : decode cX8_ofCell 45 = .ok (.getfield 10, 3) := by decide +kernel
theorem dX8_ofCell_48 : decode cX8_ofCell 48 = .ok (.getfield 59, 3) := by decide +kernel
theorem dX8_ofCell_51 : decode cX8_ofCell 51 = .ok (.iload_n 1, 1) := by decide +kernel
theorem dX8_ofCell_52 : decode cX8_ofCell 52 = .ok (.iaload, 1) := by decide +kernel
theorem dX8_ofCell_53 : decode cX8_ofCell 53 = .ok (.ireturn, 1) := by decide +kernel
theorem dX8_ofCell_54 : decode cX8_ofCell 54 = .ok (.aload_n 0, 1) := by decide +kernel
theorem dX8_ofCell_55 : decode cX8_ofCell 55 = .ok (.getfield 10, 3) := by decide +kernel
theorem dX8_ofCell_58 : decode cX8_ofCell 58 = .ok (.getfield 69, 3) := by decide +kernel
theorem dX8_ofCell_61 : decode cX8_ofCell 61 = .ok (.iload_n 1, 1) := by decide +kernel
theorem dX8_ofCell_62 : decode cX8_ofCell 62 = .ok (.baload, 1) := by decide +kernel
theorem dX8_ofCell_63 : decode cX8_ofCell 63 = .ok (.ifCond .eq 7, 3) := by decide +kernel
theorem dX8_ofCell_66 : decode cX8_ofCell 66 = .ok (.iconst 1, 1) := by decide +kernel
theorem dX8_ofCell_67 : decode cX8_ofCell 67 = .ok (.goto 4, 3) := by decide +kernel
theorem dX8_ofCell_70 : decode cX8_ofCell 70 = .ok (.iconst 0, 1) := by decide +kernel
theorem dX8_ofCell_71 : decode cX8_ofCell 71 = .ok (.ireturn, 1) := by decide +kernel
theorem dX8_ofCell_72 : decode cX8_ofCell 72 = .ok (.aload_n 0, 1) := by decide +kernel
theorem dX8_ofCell_73 : decode cX8_ofCell 73 = .ok (.getfield 10, 3) := by decide +kernel
theorem dX8_ofCell_76 : decode cX8_ofCell 76 = .ok (.getfield 63, 3) := by decide +kernel
theorem dX8_ofCell_79 : decode cX8_ofCell 79 = .ok (.iload_n 1, 1) := by decide +kernel
theorem dX8_ofCell_80 : decode cX8_ofCell 80 = .ok (.iaload, 1) := by decide +kernel
theorem dX8_ofCell_81 : decode cX8_ofCell 81 = .ok (.ireturn, 1) := by decide +kernel
theorem dX8_ofCell_82 : decode cX8_ofCell 82 = .ok (.aload_n 0, 1) := by decide +kernel
theorem dX8_ofCell_83 : decode cX8_ofCell 83 = .ok (.getfield 21, 3) := by decide +kernel
theorem dX8_ofCell_86 : decode cX8_ofCell 86 = .ok (.getfield 195, 3) := by decide +kernel
theorem dX8_ofCell_89 : decode cX8_ofCell 89 = .ok (.iload_n 1, 1) := by decide +kernel
theorem dX8_ofCell_90 : decode cX8_ofCell 90 = .ok (.iaload, 1) := by decide +kernel
theorem dX8_ofCell_91 : decode cX8_ofCell 91 = .ok (.ireturn, 1) := by decide +kernel
theorem dX8_ofCell_92 : decode cX8_ofCell 92 = .ok (.aload_n 0, 1) := by decide +kernel
theorem dX8_ofCell_93 : decode cX8_ofCell 93 = .ok (.getfield 40, 3) := by decide +kernel
theorem dX8_ofCell_96 : decode cX8_ofCell 96 = .ok (.iload_n 1, 1) := by decide +kernel
theorem dX8_ofCell_97 : decode cX8_ofCell 97 = .ok (.aload_n 0, 1) := by decide +kernel
theorem dX8_ofCell_98 : decode cX8_ofCell 98 = .ok (.getfield 21, 3) := by decide +kernel
theorem dX8_ofCell_101 : decode cX8_ofCell 101 = .ok (.getfield 186, 3) := by decide +kernel
theorem dX8_ofCell_104 : decode cX8_ofCell 104 = .ok (.sipush 1440, 3) := by decide +kernel
theorem dX8_ofCell_107 : decode cX8_ofCell 107 = .ok (.idiv, 1) := by decide +kernel
theorem dX8_ofCell_108 : decode cX8_ofCell 108 = .ok (.invokevirtual 198, 3) := by decide +kernel
theorem dX8_ofCell_111 : decode cX8_ofCell 111 = .ok (.ireturn, 1) := by decide +kernel
theorem dX8_ofCell_112 : decode cX8_ofCell 112 = .ok (.aload_n 0, 1) := by decide +kernel
theorem dX8_ofCell_113 : decode cX8_ofCell 113 = .ok (.getfield 21, 3) := by decide +kernel
theorem dX8_ofCell_116 : decode cX8_ofCell 116 = .ok (.iload_n 1, 1) := by decide +kernel
theorem dX8_ofCell_117 : decode cX8_ofCell 117 = .ok (.invokevirtual 202, 3) := by decide +kernel
theorem dX8_ofCell_120 : decode cX8_ofCell 120 = .ok (.ireturn, 1) := by decide +kernel
theorem dX8_ofCell_121 : decode cX8_ofCell 121 = .ok (.new 205, 3) := by decide +kernel
theorem dX8_ofCell_124 : decode cX8_ofCell 124 = .ok (.dup, 1) := by decide +kernel
theorem dX8_ofCell_125 : decode cX8_ofCell 125 = .ok (.ldc 207, 2) := by decide +kernel
theorem dX8_ofCell_127 : decode cX8_ofCell 127 = .ok (.invokespecial 209, 3) := by decide +kernel
theorem dX8_ofCell_130 : decode cX8_ofCell 130 = .ok (.athrow, 1) := by decide +kernel
theorem dX8_ofCraft_0 : decode cX8_ofCraft 0 = .ok (.aload_n 0, 1) := by decide +kernel
theorem dX8_ofCraft_1 : decode cX8_ofCraft 1 = .ok (.iload_n 1, 1) := by decide +kernel
theorem dX8_ofCraft_2 : decode cX8_ofCraft 2 = .ok (.invokevirtual 130, 3) := by decide +kernel
theorem dX8_ofCraft_5 : decode cX8_ofCraft 5 = .ok (.aload_n 0, 1) := by decide +kernel
theorem dX8_ofCraft_6 : decode cX8_ofCraft 6 = .ok (.getfield 21, 3) := by decide +kernel
theorem dX8_ofCraft_9 : decode cX8_ofCraft 9 = .ok (.getfield 100, 3) := by decide +kernel
theorem dX8_ofCraft_12 : decode cX8_ofCraft 12 = .ok (.iload_n 1, 1) := by decide +kernel
theorem dX8_ofCraft_13 : decode cX8_ofCraft 13 = .ok (.aaload, 1) := by decide +kernel
theorem dX8_ofCraft_14 : decode cX8_ofCraft 14 = .ok (.astore_n 3, 1) := by decide +kernel
theorem dX8_ofCraft_15 : decode cX8_ofCraft 15 = .ok (.iload_n 2, 1) := by decide +kernel
theorem dX8_ofCraft_16 : decode cX8_ofCraft 16 = .ok (.tableswitch 114 0 9 #[56, 61, 66, 71, 76, 81, 94, 99, 104, 109], 56) := by decide +kernel
theorem dX8_ofCraft_72 : decode cX8_ofCraft 72 = .ok (.aload_n 3, 1) := by decide +kernel
theorem dX8_ofCraft_73 : decode cX8_ofCraft 73 = .ok (.getfield 104, 3) := by decide +kernel
theorem dX8_ofCraft_76 : decode cX8_ofCraft 76 = .ok (.ireturn, 1) := by decide +kernel
theorem dX8_ofCraft_77 : decode cX8_ofCraft 77 = .ok (.aload_n 3, 1) := by decide +kernel
theorem dX8_ofCraft_78 : decode cX8_ofCraft 78 = .ok (.getfield 109, 3) := by decide +kernel
theorem dX8_ofCraft_81 : decode cX8_ofCraft 81 = .ok (.ireturn, 1) := by decide +kernel
theorem dX8_ofCraft_82 : decode cX8_ofCraft 82 = .ok (.aload_n 3, 1) := by decide +kernel
theorem dX8_ofCraft_83 : decode cX8_ofCraft 83 = .ok (.getfield 118, 3) := by decide +kernel
theorem dX8_ofCraft_86 : decode cX8_ofCraft 86 = .ok (.ireturn, 1) := by decide +kernel
theorem dX8_ofCraft_87 : decode cX8_ofCraft 87 = .ok (.aload_n 3, 1) := by decide +kernel
theorem dX8_ofCraft_88 : decode cX8_ofCraft 88 = .ok (.getfield 121, 3) := by decide +kernel
theorem dX8_ofCraft_91 : decode cX8_ofCraft 91 = .ok (.ireturn, 1) := by decide +kernel
theorem dX8_ofCraft_92 : decode cX8_ofCraft 92 = .ok (.aload_n 3, 1) := by decide +kernel
theorem dX8_ofCraft_93 : decode cX8_ofCraft 93 = .ok (.getfield 124, 3) := by decide +kernel
theorem dX8_ofCraft_96 : decode cX8_ofCraft 96 = .ok (.ireturn, 1) := by decide +kernel
theorem dX8_ofCraft_97 : decode cX8_ofCraft 97 = .ok (.aload_n 3, 1) := by decide +kernel
theorem dX8_ofCraft_98 : decode cX8_ofCraft 98 = .ok (.getfield 133, 3) := by decide +kernel
theorem dX8_ofCraft_101 : decode cX8_ofCraft 101 = .ok (.ifCond .eq 7, 3) := by decide +kernel
theorem dX8_ofCraft_104 : decode cX8_ofCraft 104 = .ok (.iconst 1, 1) := by decide +kernel
theorem dX8_ofCraft_105 : decode cX8_ofCraft 105 = .ok (.goto 4, 3) := by decide +kernel
theorem dX8_ofCraft_108 : decode cX8_ofCraft 108 = .ok (.iconst 0, 1) := by decide +kernel
theorem dX8_ofCraft_109 : decode cX8_ofCraft 109 = .ok (.ireturn, 1) := by decide +kernel
theorem dX8_ofCraft_110 : decode cX8_ofCraft 110 = .ok (.aload_n 3, 1) := by decide +kernel
theorem dX8_ofCraft_111 : decode cX8_ofCraft 111 = .ok (.getfield 137, 3) := by decide +kernel
theorem dX8_ofCraft_114 : decode cX8_ofCraft 114 = .ok (.ireturn, 1) := by decide +kernel
theorem dX8_ofCraft_115 : decode cX8_ofCraft 115 = .ok (.aload_n 3, 1) := by decide +kernel
theorem dX8_ofCraft_116 : decode cX8_ofCraft 116 = .ok (.getfield 127, 3) := by decide +kernel
theorem dX8_ofCraft_119 : decode cX8_ofCraft 119 = .ok (.ireturn, 1) := by decide +kernel
theorem dX8_ofCraft_120 : decode cX8_ofCraft 120 = .ok (.aload_n 3, 1) := by decide +kernel
theorem dX8_ofCraft_121 : decode cX8_ofCraft 121 = .ok (.getfield 212, 3) := by decide +kernel
theorem dX8_ofCraft_124 : decode cX8_ofCraft 124 = .ok (.ireturn, 1) := by decide +kernel
theorem dX8_ofCraft_125 : decode cX8_ofCraft 125 = .ok (.aload_n 3, 1) := by decide +kernel
theorem dX8_ofCraft_126 : decode cX8_ofCraft 126 = .ok (.getfield 215, 3) := by decide +kernel
theorem dX8_ofCraft_129 : decode cX8_ofCraft 129 = .ok (.ireturn, 1) := by decide +kernel
theorem dX8_ofCraft_130 : decode cX8_ofCraft 130 = .ok (.new 205, 3) := by decide +kernel
theorem dX8_ofCraft_133 : decode cX8_ofCraft 133 = .ok (.dup, 1) := by decide +kernel
theorem dX8_ofCraft_134 : decode cX8_ofCraft 134 = .ok (.ldc 218, 2) := by decide +kernel
theorem dX8_ofCraft_136 : decode cX8_ofCraft 136 = .ok (.invokespecial 209, 3) := by decide +kernel
theorem dX8_ofCraft_139 : decode cX8_ofCraft 139 = .ok (.athrow, 1) := by decide +kernel
theorem dX8_ofFlight_0 : decode cX8_ofFlight 0 = .ok (.aload_n 0, 1) := by decide +kernel
theorem dX8_ofFlight_1 : decode cX8_ofFlight 1 = .ok (.iload_n 1, 1) := by decide +kernel
theorem dX8_ofFlight_2 : decode cX8_ofFlight 2 = .ok (.invokevirtual 180, 3) := by decide +kernel
theorem dX8_ofFlight_5 : decode cX8_ofFlight 5 = .ok (.aload_n 0, 1) := by decide +kernel
theorem dX8_ofFlight_6 : decode cX8_ofFlight 6 = .ok (.getfield 21, 3) := by decide +kernel
theorem dX8_ofFlight_9 : decode cX8_ofFlight 9 = .ok (.getfield 160, 3) := by decide +kernel
theorem dX8_ofFlight_12 : decode cX8_ofFlight 12 = .ok (.iload_n 1, 1) := by decide +kernel
theorem dX8_ofFlight_13 : decode cX8_ofFlight 13 = .ok (.aaload, 1) := by decide +kernel
theorem dX8_ofFlight_14 : decode cX8_ofFlight 14 = .ok (.astore_n 3, 1) := by decide +kernel
theorem dX8_ofFlight_15 : decode cX8_ofFlight 15 = .ok (.iload_n 2, 1) := by decide +kernel
theorem dX8_ofFlight_16 : decode cX8_ofFlight 16 = .ok (.tableswitch 71 0 4 #[36, 41, 46, 51, 63], 36) := by decide +kernel
theorem dX8_ofFlight_52 : decode cX8_ofFlight 52 = .ok (.aload_n 3, 1) := by decide +kernel
theorem dX8_ofFlight_53 : decode cX8_ofFlight 53 = .ok (.getfield 172, 3) := by decide +kernel
theorem dX8_ofFlight_56 : decode cX8_ofFlight 56 = .ok (.ireturn, 1) := by decide +kernel
theorem dX8_ofFlight_57 : decode cX8_ofFlight 57 = .ok (.aload_n 3, 1) := by decide +kernel
theorem dX8_ofFlight_58 : decode cX8_ofFlight 58 = .ok (.getfield 164, 3) := by decide +kernel
theorem dX8_ofFlight_61 : decode cX8_ofFlight 61 = .ok (.ireturn, 1) := by decide +kernel
theorem dX8_ofFlight_62 : decode cX8_ofFlight 62 = .ok (.aload_n 3, 1) := by decide +kernel
theorem dX8_ofFlight_63 : decode cX8_ofFlight 63 = .ok (.getfield 169, 3) := by decide +kernel
theorem dX8_ofFlight_66 : decode cX8_ofFlight 66 = .ok (.ireturn, 1) := by decide +kernel
theorem dX8_ofFlight_67 : decode cX8_ofFlight 67 = .ok (.aload_n 3, 1) := by decide +kernel
theorem dX8_ofFlight_68 : decode cX8_ofFlight 68 = .ok (.getfield 173, 3) := by decide +kernel
theorem dX8_ofFlight_71 : decode cX8_ofFlight 71 = .ok (.aload_n 3, 1) := by decide +kernel
theorem dX8_ofFlight_72 : decode cX8_ofFlight 72 = .ok (.getfield 169, 3) := by decide +kernel
theorem dX8_ofFlight_75 : decode cX8_ofFlight 75 = .ok (.invokevirtual 220, 3) := by decide +kernel
theorem dX8_ofFlight_78 : decode cX8_ofFlight 78 = .ok (.ireturn, 1) := by decide +kernel
theorem dX8_ofFlight_79 : decode cX8_ofFlight 79 = .ok (.aload_n 3, 1) := by decide +kernel
theorem dX8_ofFlight_80 : decode cX8_ofFlight 80 = .ok (.getfield 173, 3) := by decide +kernel
theorem dX8_ofFlight_83 : decode cX8_ofFlight 83 = .ok (.getfield 140, 3) := by decide +kernel
theorem dX8_ofFlight_86 : decode cX8_ofFlight 86 = .ok (.ireturn, 1) := by decide +kernel
theorem dX8_ofFlight_87 : decode cX8_ofFlight 87 = .ok (.new 205, 3) := by decide +kernel
theorem dX8_ofFlight_90 : decode cX8_ofFlight 90 = .ok (.dup, 1) := by decide +kernel
theorem dX8_ofFlight_91 : decode cX8_ofFlight 91 = .ok (.ldc 223, 2) := by decide +kernel
theorem dX8_ofFlight_93 : decode cX8_ofFlight 93 = .ok (.invokespecial 209, 3) := by decide +kernel
theorem dX8_ofFlight_96 : decode cX8_ofFlight 96 = .ok (.athrow, 1) := by decide +kernel
theorem dX8_occupies_0 : decode cX8_occupies 0 = .ok (.iload_n 1, 1) := by decide +kernel
theorem dX8_occupies_1 : decode cX8_occupies 1 = .ok (.invokestatic 51, 3) := by decide +kernel
theorem dX8_occupies_4 : decode cX8_occupies 4 = .ok (.iload_n 2, 1) := by decide +kernel
theorem dX8_occupies_5 : decode cX8_occupies 5 = .ok (.ifCond .lt 7, 3) := by decide +kernel
theorem dX8_occupies_8 : decode cX8_occupies 8 = .ok (.iconst 1, 1) := by decide +kernel
theorem dX8_occupies_9 : decode cX8_occupies 9 = .ok (.goto 4, 3) := by decide +kernel
theorem dX8_occupies_12 : decode cX8_occupies 12 = .ok (.iconst 0, 1) := by decide +kernel
theorem dX8_occupies_13 : decode cX8_occupies 13 = .ok (.invokestatic 55, 3) := by decide +kernel
theorem dX8_occupies_16 : decode cX8_occupies 16 = .ok (.iconst 0, 1) := by decide +kernel
theorem dX8_occupies_17 : decode cX8_occupies 17 = .ok (.istore_n 3, 1) := by decide +kernel
theorem dX8_occupies_18 : decode cX8_occupies 18 = .ok (.iload_n 3, 1) := by decide +kernel
theorem dX8_occupies_19 : decode cX8_occupies 19 = .ok (.aload_n 0, 1) := by decide +kernel
theorem dX8_occupies_20 : decode cX8_occupies 20 = .ok (.getfield 21, 3) := by decide +kernel
theorem dX8_occupies_23 : decode cX8_occupies 23 = .ok (.getfield 153, 3) := by decide +kernel
theorem dX8_occupies_26 : decode cX8_occupies 26 = .ok (.if_icmp .ge 40, 3) := by decide +kernel
theorem dX8_occupies_29 : decode cX8_occupies 29 = .ok (.aload_n 0, 1) := by decide +kernel
theorem dX8_occupies_30 : decode cX8_occupies 30 = .ok (.getfield 21, 3) := by decide +kernel
theorem dX8_occupies_33 : decode cX8_occupies 33 = .ok (.getfield 160, 3) := by decide +kernel
theorem dX8_occupies_36 : decode cX8_occupies 36 = .ok (.iload_n 3, 1) := by decide +kernel
theorem dX8_occupies_37 : decode cX8_occupies 37 = .ok (.aaload, 1) := by decide +kernel
theorem dX8_occupies_38 : decode cX8_occupies 38 = .ok (.astore 4, 2) := by decide +kernel
theorem dX8_occupies_40 : decode cX8_occupies 40 = .ok (.aload 4, 2) := by decide +kernel
theorem dX8_occupies_42 : decode cX8_occupies 42 = .ok (.invokevirtual 225, 3) := by decide +kernel
theorem dX8_occupies_45 : decode cX8_occupies 45 = .ok (.ifCond .eq 15, 3) := by decide +kernel
theorem dX8_occupies_48 : decode cX8_occupies 48 = .ok (.aload 4, 2) := by decide +kernel
theorem dX8_occupies_50 : decode cX8_occupies 50 = .ok (.iload_n 1, 1) := by decide +kernel
theorem dX8_occupies_51 : decode cX8_occupies 51 = .ok (.iload_n 2, 1) := by decide +kernel
theorem dX8_occupies_52 : decode cX8_occupies 52 = .ok (.invokevirtual 229, 3) := by decide +kernel
theorem dX8_occupies_55 : decode cX8_occupies 55 = .ok (.ifCond .eq 5, 3) := by decide +kernel
theorem dX8_occupies_58 : decode cX8_occupies 58 = .ok (.iload_n 3, 1) := by decide +kernel
theorem dX8_occupies_59 : decode cX8_occupies 59 = .ok (.ireturn, 1) := by decide +kernel
theorem dX8_occupies_60 : decode cX8_occupies 60 = .ok (.iinc 3 1, 3) := by decide +kernel
theorem dX8_occupies_63 : decode cX8_occupies 63 = .ok (.goto (-45), 3) := by decide +kernel
theorem dX8_occupies_66 : decode cX8_occupies 66 = .ok (.iconst (-1), 1) := by decide +kernel
theorem dX8_occupies_67 : decode cX8_occupies 67 = .ok (.ireturn, 1) := by decide +kernel
theorem dX8_many_0 : decode cX8_many 0 = .ok (.iload_n 1, 1) := by decide +kernel
theorem dX8_many_1 : decode cX8_many 1 = .ok (.tableswitch 163 0 15 #[79, 87, 95, 103, 111, 119, 127, 127, 127, 127, 127, 127, 127, 139, 147, 155], 79) := by decide +kernel
theorem dX8_many_80 : decode cX8_many 80 = .ok (.aload_n 0, 1) := by decide +kernel
theorem dX8_many_81 : decode cX8_many 81 = .ok (.getfield 21, 3) := by decide +kernel
theorem dX8_many_84 : decode cX8_many 84 = .ok (.getfield 186, 3) := by decide +kernel
theorem dX8_many_87 : decode cX8_many 87 = .ok (.ireturn, 1) := by decide +kernel
theorem dX8_many_88 : decode cX8_many 88 = .ok (.aload_n 0, 1) := by decide +kernel
theorem dX8_many_89 : decode cX8_many 89 = .ok (.getfield 10, 3) := by decide +kernel
theorem dX8_many_92 : decode cX8_many 92 = .ok (.getfield 73, 3) := by decide +kernel
theorem dX8_many_95 : decode cX8_many 95 = .ok (.ireturn, 1) := by decide +kernel
theorem dX8_many_96 : decode cX8_many 96 = .ok (.aload_n 0, 1) := by decide +kernel
theorem dX8_many_97 : decode cX8_many 97 = .ok (.getfield 10, 3) := by decide +kernel
theorem dX8_many_100 : decode cX8_many 100 = .ok (.getfield 81, 3) := by decide +kernel
theorem dX8_many_103 : decode cX8_many 103 = .ok (.ireturn, 1) := by decide +kernel
theorem dX8_many_104 : decode cX8_many 104 = .ok (.aload_n 0, 1) := by decide +kernel
theorem dX8_many_105 : decode cX8_many 105 = .ok (.getfield 21, 3) := by decide +kernel
theorem dX8_many_108 : decode cX8_many 108 = .ok (.getfield 97, 3) := by decide +kernel
theorem dX8_many_111 : decode cX8_many 111 = .ok (.ireturn, 1) := by decide +kernel
theorem dX8_many_112 : decode cX8_many 112 = .ok (.aload_n 0, 1) := by decide +kernel
theorem dX8_many_113 : decode cX8_many 113 = .ok (.getfield 21, 3) := by decide +kernel
theorem dX8_many_116 : decode cX8_many 116 = .ok (.getfield 153, 3) := by decide +kernel
theorem dX8_many_119 : decode cX8_many 119 = .ok (.ireturn, 1) := by decide +kernel
theorem dX8_many_120 : decode cX8_many 120 = .ok (.aload_n 0, 1) := by decide +kernel
theorem dX8_many_121 : decode cX8_many 121 = .ok (.getfield 31, 3) := by decide +kernel
theorem dX8_many_124 : decode cX8_many 124 = .ok (.getfield 140, 3) := by decide +kernel
theorem dX8_many_127 : decode cX8_many 127 = .ok (.ireturn, 1) := by decide +kernel
theorem dX8_many_128 : decode cX8_many 128 = .ok (.aload_n 0, 1) := by decide +kernel
theorem dX8_many_129 : decode cX8_many 129 = .ok (.getfield 21, 3) := by decide +kernel
theorem dX8_many_132 : decode cX8_many 132 = .ok (.iload_n 1, 1) := by decide +kernel
theorem dX8_many_133 : decode cX8_many 133 = .ok (.bipush 6, 2) := by decide +kernel
theorem dX8_many_135 : decode cX8_many 135 = .ok (.isub, 1) := by decide +kernel
theorem dX8_many_136 : decode cX8_many 136 = .ok (.invokevirtual 189, 3) := by decide +kernel
theorem dX8_many_139 : decode cX8_many 139 = .ok (.ireturn, 1) := by decide +kernel
theorem dX8_many_140 : decode cX8_many 140 = .ok (.aload_n 0, 1) := by decide +kernel
theorem dX8_many_141 : decode cX8_many 141 = .ok (.getfield 21, 3) := by decide +kernel
theorem dX8_many_144 : decode cX8_many 144 = .ok (.getfield 233, 3) := by decide +kernel
theorem dX8_many_147 : decode cX8_many 147 = .ok (.ireturn, 1) := by decide +kernel
theorem dX8_many_148 : decode cX8_many 148 = .ok (.aload_n 0, 1) := by decide +kernel
theorem dX8_many_149 : decode cX8_many 149 = .ok (.getfield 21, 3) := by decide +kernel
theorem dX8_many_152 : decode cX8_many 152 = .ok (.invokevirtual 236, 3) := by decide +kernel
theorem dX8_many_155 : decode cX8_many 155 = .ok (.ireturn, 1) := by decide +kernel
theorem dX8_many_156 : decode cX8_many 156 = .ok (.aload_n 0, 1) := by decide +kernel
theorem dX8_many_157 : decode cX8_many 157 = .ok (.getfield 21, 3) := by decide +kernel
theorem dX8_many_160 : decode cX8_many 160 = .ok (.getfield 240, 3) := by decide +kernel
theorem dX8_many_163 : decode cX8_many 163 = .ok (.ireturn, 1) := by decide +kernel
theorem dX8_many_164 : decode cX8_many 164 = .ok (.new 205, 3) := by decide +kernel
theorem dX8_many_167 : decode cX8_many 167 = .ok (.dup, 1) := by decide +kernel
theorem dX8_many_168 : decode cX8_many 168 = .ok (.ldc 243, 2) := by decide +kernel
theorem dX8_many_170 : decode cX8_many 170 = .ok (.invokespecial 209, 3) := by decide +kernel
theorem dX8_many_173 : decode cX8_many 173 = .ok (.athrow, 1) := by decide +kernel
theorem dX8_meanCharge_0 : decode cX8_meanCharge 0 = .ok (.dconst 0, 1) := by decide +kernel
theorem dX8_meanCharge_1 : decode cX8_meanCharge 1 = .ok (.dstore_n 1, 1) := by decide +kernel
theorem dX8_meanCharge_2 : decode cX8_meanCharge 2 = .ok (.iconst 0, 1) := by decide +kernel
theorem dX8_meanCharge_3 : decode cX8_meanCharge 3 = .ok (.istore_n 3, 1) := by decide +kernel
theorem dX8_meanCharge_4 : decode cX8_meanCharge 4 = .ok (.iload_n 3, 1) := by decide +kernel
theorem dX8_meanCharge_5 : decode cX8_meanCharge 5 = .ok (.aload_n 0, 1) := by decide +kernel
theorem dX8_meanCharge_6 : decode cX8_meanCharge 6 = .ok (.getfield 21, 3) := by decide +kernel
theorem dX8_meanCharge_9 : decode cX8_meanCharge 9 = .ok (.getfield 97, 3) := by decide +kernel
theorem dX8_meanCharge_12 : decode cX8_meanCharge 12 = .ok (.if_icmp .ge 44, 3) := by decide +kernel
theorem dX8_meanCharge_15 : decode cX8_meanCharge 15 = .ok (.aload_n 0, 1) := by decide +kernel
theorem dX8_meanCharge_16 : decode cX8_meanCharge 16 = .ok (.getfield 21, 3) := by decide +kernel
theorem dX8_meanCharge_19 : decode cX8_meanCharge 19 = .ok (.getfield 100, 3) := by decide +kernel
theorem dX8_meanCharge_22 : decode cX8_meanCharge 22 = .ok (.iload_n 3, 1) := by decide +kernel
theorem dX8_meanCharge_23 : decode cX8_meanCharge 23 = .ok (.aaload, 1) := by decide +kernel
theorem dX8_meanCharge_24 : decode cX8_meanCharge 24 = .ok (.astore 4, 2) := by decide +kernel
theorem dX8_meanCharge_26 : decode cX8_meanCharge 26 = .ok (.aload 4, 2) := by decide +kernel
theorem dX8_meanCharge_28 : decode cX8_meanCharge 28 = .ok (.getfield 118, 3) := by decide +kernel
theorem dX8_meanCharge_31 : decode cX8_meanCharge 31 = .ok (.ifCond .le 19, 3) := by decide +kernel
theorem dX8_meanCharge_34 : decode cX8_meanCharge 34 = .ok (.dload_n 1, 1) := by decide +kernel
theorem dX8_meanCharge_35 : decode cX8_meanCharge 35 = .ok (.aload 4, 2) := by decide +kernel
theorem dX8_meanCharge_37 : decode cX8_meanCharge 37 = .ok (.getfield 121, 3) := by decide +kernel
theorem dX8_meanCharge_40 : decode cX8_meanCharge 40 = .ok (.i2d, 1) := by decide +kernel
theorem dX8_meanCharge_41 : decode cX8_meanCharge 41 = .ok (.aload 4, 2) := by decide +kernel
theorem dX8_meanCharge_43 : decode cX8_meanCharge 43 = .ok (.getfield 118, 3) := by decide +kernel
theorem dX8_meanCharge_46 : decode cX8_meanCharge 46 = .ok (.i2d, 1) := by decide +kernel
theorem dX8_meanCharge_47 : decode cX8_meanCharge 47 = .ok (.ddiv, 1) := by decide +kernel
theorem dX8_meanCharge_48 : decode cX8_meanCharge 48 = .ok (.dadd, 1) := by decide +kernel
theorem dX8_meanCharge_49 : decode cX8_meanCharge 49 = .ok (.dstore_n 1, 1) := by decide +kernel
theorem dX8_meanCharge_50 : decode cX8_meanCharge 50 = .ok (.iinc 3 1, 3) := by decide +kernel
theorem dX8_meanCharge_53 : decode cX8_meanCharge 53 = .ok (.goto (-49), 3) := by decide +kernel
theorem dX8_meanCharge_56 : decode cX8_meanCharge 56 = .ok (.aload_n 0, 1) := by decide +kernel
theorem dX8_meanCharge_57 : decode cX8_meanCharge 57 = .ok (.getfield 21, 3) := by decide +kernel
theorem dX8_meanCharge_60 : decode cX8_meanCharge 60 = .ok (.getfield 97, 3) := by decide +kernel
theorem dX8_meanCharge_63 : decode cX8_meanCharge 63 = .ok (.ifCond .le 16, 3) := by decide +kernel
theorem dX8_meanCharge_66 : decode cX8_meanCharge 66 = .ok (.dload_n 1, 1) := by decide +kernel
theorem dX8_meanCharge_67 : decode cX8_meanCharge 67 = .ok (.aload_n 0, 1) := by decide +kernel
theorem dX8_meanCharge_68 : decode cX8_meanCharge 68 = .ok (.getfield 21, 3) := by decide +kernel
theorem dX8_meanCharge_71 : decode cX8_meanCharge 71 = .ok (.getfield 97, 3) := by decide +kernel
theorem dX8_meanCharge_74 : decode cX8_meanCharge 74 = .ok (.i2d, 1) := by decide +kernel
theorem dX8_meanCharge_75 : decode cX8_meanCharge 75 = .ok (.ddiv, 1) := by decide +kernel
theorem dX8_meanCharge_76 : decode cX8_meanCharge 76 = .ok (.goto 4, 3) := by decide +kernel
theorem dX8_meanCharge_79 : decode cX8_meanCharge 79 = .ok (.dconst 0, 1) := by decide +kernel
theorem dX8_meanCharge_80 : decode cX8_meanCharge 80 = .ok (.dreturn, 1) := by decide +kernel
theorem dX8_why_0 : decode cX8_why 0 = .ok (.aload_n 0, 1) := by decide +kernel
theorem dX8_why_1 : decode cX8_why 1 = .ok (.iload_n 1, 1) := by decide +kernel
theorem dX8_why_2 : decode cX8_why 2 = .ok (.invokevirtual 130, 3) := by decide +kernel
theorem dX8_why_5 : decode cX8_why 5 = .ok (.aload_n 0, 1) := by decide +kernel
theorem dX8_why_6 : decode cX8_why 6 = .ok (.iload_n 2, 1) := by decide +kernel
theorem dX8_why_7 : decode cX8_why 7 = .ok (.invokevirtual 146, 3) := by decide +kernel
theorem dX8_why_10 : decode cX8_why 10 = .ok (.aload_n 0, 1) := by decide +kernel
theorem dX8_why_11 : decode cX8_why 11 = .ok (.getfield 10, 3) := by decide +kernel
theorem dX8_why_14 : decode cX8_why 14 = .ok (.aload_n 0, 1) := by decide +kernel
theorem dX8_why_15 : decode cX8_why 15 = .ok (.getfield 31, 3) := by decide +kernel
theorem dX8_why_18 : decode cX8_why 18 = .ok (.invokevirtual 149, 3) := by decide +kernel
theorem dX8_why_21 : decode cX8_why 21 = .ok (.invokestatic 66, 3) := by decide +kernel
theorem dX8_why_24 : decode cX8_why 24 = .ok (.aload_n 0, 1) := by decide +kernel
theorem dX8_why_25 : decode cX8_why 25 = .ok (.getfield 40, 3) := by decide +kernel
theorem dX8_why_28 : decode cX8_why 28 = .ok (.iload_n 1, 1) := by decide +kernel
theorem dX8_why_29 : decode cX8_why 29 = .ok (.aload_n 0, 1) := by decide +kernel
theorem dX8_why_30 : decode cX8_why 30 = .ok (.getfield 31, 3) := by decide +kernel
theorem dX8_why_33 : decode cX8_why 33 = .ok (.iload_n 2, 1) := by decide +kernel
theorem dX8_why_34 : decode cX8_why 34 = .ok (.invokevirtual 156, 3) := by decide +kernel
theorem dX8_why_37 : decode cX8_why 37 = .ok (.ireturn, 1) := by decide +kernel
theorem dX8_soonest_0 : decode cX8_soonest 0 = .ok (.aload_n 0, 1) := by decide +kernel
theorem dX8_soonest_1 : decode cX8_soonest 1 = .ok (.iload_n 1, 1) := by decide +kernel
theorem dX8_soonest_2 : decode cX8_soonest 2 = .ok (.invokevirtual 130, 3) := by decide +kernel
theorem dX8_soonest_5 : decode cX8_soonest 5 = .ok (.aload_n 0, 1) := by decide +kernel
theorem dX8_soonest_6 : decode cX8_soonest 6 = .ok (.getfield 10, 3) := by decide +kernel
theorem dX8_soonest_9 : decode cX8_soonest 9 = .ok (.aload_n 0, 1) := by decide +kernel
theorem dX8_soonest_10 : decode cX8_soonest 10 = .ok (.getfield 31, 3) := by decide +kernel
theorem dX8_soonest_13 : decode cX8_soonest 13 = .ok (.invokevirtual 149, 3) := by decide +kernel
theorem dX8_soonest_16 : decode cX8_soonest 16 = .ok (.invokestatic 66, 3) := by decide +kernel
theorem dX8_soonest_19 : decode cX8_soonest 19 = .ok (.iconst 1, 1) := by decide +kernel
theorem dX8_soonest_20 : decode cX8_soonest 20 = .ok (.istore_n 2, 1) := by decide +kernel
theorem dX8_soonest_21 : decode cX8_soonest 21 = .ok (.iload_n 2, 1) := by decide +kernel
theorem dX8_soonest_22 : decode cX8_soonest 22 = .ok (.sipush 200, 3) := by decide +kernel
theorem dX8_soonest_25 : decode cX8_soonest 25 = .ok (.if_icmp .gt 43, 3) := by decide +kernel
theorem dX8_soonest_28 : decode cX8_soonest 28 = .ok (.aload_n 0, 1) := by decide +kernel
theorem dX8_soonest_29 : decode cX8_soonest 29 = .ok (.getfield 40, 3) := by decide +kernel
theorem dX8_soonest_32 : decode cX8_soonest 32 = .ok (.iload_n 1, 1) := by decide +kernel
theorem dX8_soonest_33 : decode cX8_soonest 33 = .ok (.aload_n 0, 1) := by decide +kernel
theorem dX8_soonest_34 : decode cX8_soonest 34 = .ok (.getfield 31, 3) := by decide +kernel
theorem dX8_soonest_37 : decode cX8_soonest 37 = .ok (.aload_n 0, 1) := by decide +kernel
theorem dX8_soonest_38 : decode cX8_soonest 38 = .ok (.getfield 21, 3) := by decide +kernel
theorem dX8_soonest_41 : decode cX8_soonest 41 = .ok (.getfield 186, 3) := by decide +kernel
theorem dX8_soonest_44 : decode cX8_soonest 44 = .ok (.iload_n 2, 1) := by decide +kernel
theorem dX8_soonest_45 : decode cX8_soonest 45 = .ok (.iadd, 1) := by decide +kernel
theorem dX8_soonest_46 : decode cX8_soonest 46 = .ok (.invokevirtual 156, 3) := by decide +kernel
theorem dX8_soonest_49 : decode cX8_soonest 49 = .ok (.ifCond .ne 13, 3) := by decide +kernel
theorem dX8_soonest_52 : decode cX8_soonest 52 = .ok (.aload_n 0, 1) := by decide +kernel
theorem dX8_soonest_53 : decode cX8_soonest 53 = .ok (.getfield 21, 3) := by decide +kernel
theorem dX8_soonest_56 : decode cX8_soonest 56 = .ok (.getfield 186, 3) := by decide +kernel
theorem dX8_soonest_59 : decode cX8_soonest 59 = .ok (.iload_n 2, 1) := by decide +kernel
theorem dX8_soonest_60 : decode cX8_soonest 60 = .ok (.iadd, 1) := by decide +kernel
theorem dX8_soonest_61 : decode cX8_soonest 61 = .ok (.ireturn, 1) := by decide +kernel
theorem dX8_soonest_62 : decode cX8_soonest 62 = .ok (.iinc 2 1, 3) := by decide +kernel
theorem dX8_soonest_65 : decode cX8_soonest 65 = .ok (.goto (-44), 3) := by decide +kernel
theorem dX8_soonest_68 : decode cX8_soonest 68 = .ok (.iconst (-1), 1) := by decide +kernel
theorem dX8_soonest_69 : decode cX8_soonest 69 = .ok (.ireturn, 1) := by decide +kernel
theorem dX8_way_0 : decode cX8_way 0 = .ok (.aload_n 0, 1) := by decide +kernel
theorem dX8_way_1 : decode cX8_way 1 = .ok (.iload_n 1, 1) := by decide +kernel
theorem dX8_way_2 : decode cX8_way 2 = .ok (.invokevirtual 130, 3) := by decide +kernel
theorem dX8_way_5 : decode cX8_way 5 = .ok (.iload_n 2, 1) := by decide +kernel
theorem dX8_way_6 : decode cX8_way 6 = .ok (.invokestatic 51, 3) := by decide +kernel
theorem dX8_way_9 : decode cX8_way 9 = .ok (.aload_n 0, 1) := by decide +kernel
theorem dX8_way_10 : decode cX8_way 10 = .ok (.getfield 47, 3) := by decide +kernel
theorem dX8_way_13 : decode cX8_way 13 = .ok (.aload_n 0, 1) := by decide +kernel
theorem dX8_way_14 : decode cX8_way 14 = .ok (.getfield 21, 3) := by decide +kernel
theorem dX8_way_17 : decode cX8_way 17 = .ok (.getfield 100, 3) := by decide +kernel
theorem dX8_way_20 : decode cX8_way 20 = .ok (.iload_n 1, 1) := by decide +kernel
theorem dX8_way_21 : decode cX8_way 21 = .ok (.aaload, 1) := by decide +kernel
theorem dX8_way_22 : decode cX8_way 22 = .ok (.iload_n 2, 1) := by decide +kernel
theorem dX8_way_23 : decode cX8_way 23 = .ok (.aload_n 0, 1) := by decide +kernel
theorem dX8_way_24 : decode cX8_way 24 = .ok (.getfield 21, 3) := by decide +kernel
theorem dX8_way_27 : decode cX8_way 27 = .ok (.getfield 186, 3) := by decide +kernel
theorem dX8_way_30 : decode cX8_way 30 = .ok (.invokevirtual 245, 3) := by decide +kernel
theorem dX8_way_33 : decode cX8_way 33 = .ok (.ireturn, 1) := by decide +kernel
theorem dX8_cost_0 : decode cX8_cost 0 = .ok (.aload_n 0, 1) := by decide +kernel
theorem dX8_cost_1 : decode cX8_cost 1 = .ok (.iload_n 1, 1) := by decide +kernel
theorem dX8_cost_2 : decode cX8_cost 2 = .ok (.invokevirtual 130, 3) := by decide +kernel
theorem dX8_cost_5 : decode cX8_cost 5 = .ok (.iload_n 2, 1) := by decide +kernel
theorem dX8_cost_6 : decode cX8_cost 6 = .ok (.invokestatic 51, 3) := by decide +kernel
theorem dX8_cost_9 : decode cX8_cost 9 = .ok (.aload_n 0, 1) := by decide +kernel
theorem dX8_cost_10 : decode cX8_cost 10 = .ok (.getfield 47, 3) := by decide +kernel
theorem dX8_cost_13 : decode cX8_cost 13 = .ok (.aload_n 0, 1) := by decide +kernel
theorem dX8_cost_14 : decode cX8_cost 14 = .ok (.getfield 21, 3) := by decide +kernel
theorem dX8_cost_17 : decode cX8_cost 17 = .ok (.getfield 100, 3) := by decide +kernel
theorem dX8_cost_20 : decode cX8_cost 20 = .ok (.iload_n 1, 1) := by decide +kernel
theorem dX8_cost_21 : decode cX8_cost 21 = .ok (.aaload, 1) := by decide +kernel
theorem dX8_cost_22 : decode cX8_cost 22 = .ok (.iload_n 2, 1) := by decide +kernel
theorem dX8_cost_23 : decode cX8_cost 23 = .ok (.aload_n 0, 1) := by decide +kernel
theorem dX8_cost_24 : decode cX8_cost 24 = .ok (.getfield 21, 3) := by decide +kernel
theorem dX8_cost_27 : decode cX8_cost 27 = .ok (.getfield 186, 3) := by decide +kernel
theorem dX8_cost_30 : decode cX8_cost 30 = .ok (.invokevirtual 249, 3) := by decide +kernel
theorem dX8_cost_33 : decode cX8_cost 33 = .ok (.ireturn, 1) := by decide +kernel
theorem dX8_wouldNear_0 : decode cX8_wouldNear 0 = .ok (.iload_n 1, 1) := by decide +kernel
theorem dX8_wouldNear_1 : decode cX8_wouldNear 1 = .ok (.invokestatic 183, 3) := by decide +kernel
theorem dX8_wouldNear_4 : decode cX8_wouldNear 4 = .ok (.aload_n 0, 1) := by decide +kernel
theorem dX8_wouldNear_5 : decode cX8_wouldNear 5 = .ok (.getfield 25, 3) := by decide +kernel
theorem dX8_wouldNear_8 : decode cX8_wouldNear 8 = .ok (.aload_n 0, 1) := by decide +kernel
theorem dX8_wouldNear_9 : decode cX8_wouldNear 9 = .ok (.getfield 21, 3) := by decide +kernel
theorem dX8_wouldNear_12 : decode cX8_wouldNear 12 = .ok (.invokevirtual 252, 3) := by decide +kernel
theorem dX8_wouldNear_15 : decode cX8_wouldNear 15 = .ok (.aload_n 0, 1) := by decide +kernel
theorem dX8_wouldNear_16 : decode cX8_wouldNear 16 = .ok (.getfield 25, 3) := by decide +kernel
theorem dX8_wouldNear_19 : decode cX8_wouldNear 19 = .ok (.iload_n 1, 1) := by decide +kernel
theorem dX8_wouldNear_20 : decode cX8_wouldNear 20 = .ok (.invokevirtual 192, 3) := by decide +kernel
theorem dX8_wouldNear_23 : decode cX8_wouldNear 23 = .ok (.aload_n 0, 1) := by decide +kernel
theorem dX8_wouldNear_24 : decode cX8_wouldNear 24 = .ok (.getfield 25, 3) := by decide +kernel
theorem dX8_wouldNear_27 : decode cX8_wouldNear 27 = .ok (.getfield 233, 3) := by decide +kernel
theorem dX8_wouldNear_30 : decode cX8_wouldNear 30 = .ok (.aload_n 0, 1) := by decide +kernel
theorem dX8_wouldNear_31 : decode cX8_wouldNear 31 = .ok (.getfield 21, 3) := by decide +kernel
theorem dX8_wouldNear_34 : decode cX8_wouldNear 34 = .ok (.getfield 233, 3) := by decide +kernel
theorem dX8_wouldNear_37 : decode cX8_wouldNear 37 = .ok (.isub, 1) := by decide +kernel
theorem dX8_wouldNear_38 : decode cX8_wouldNear 38 = .ok (.ireturn, 1) := by decide +kernel
theorem dX8_wouldHave_0 : decode cX8_wouldHave 0 = .ok (.aload_n 0, 1) := by decide +kernel
theorem dX8_wouldHave_1 : decode cX8_wouldHave 1 = .ok (.iload_n 1, 1) := by decide +kernel
theorem dX8_wouldHave_2 : decode cX8_wouldHave 2 = .ok (.invokevirtual 130, 3) := by decide +kernel
theorem dX8_wouldHave_5 : decode cX8_wouldHave 5 = .ok (.iload_n 2, 1) := by decide +kernel
theorem dX8_wouldHave_6 : decode cX8_wouldHave 6 = .ok (.invokestatic 183, 3) := by decide +kernel
theorem dX8_wouldHave_9 : decode cX8_wouldHave 9 = .ok (.aload_n 0, 1) := by decide +kernel
theorem dX8_wouldHave_10 : decode cX8_wouldHave 10 = .ok (.getfield 25, 3) := by decide +kernel
theorem dX8_wouldHave_13 : decode cX8_wouldHave 13 = .ok (.aload_n 0, 1) := by decide +kernel
theorem dX8_wouldHave_14 : decode cX8_wouldHave 14 = .ok (.getfield 21, 3) := by decide +kernel
theorem dX8_wouldHave_17 : decode cX8_wouldHave 17 = .ok (.invokevirtual 252, 3) := by decide +kernel
theorem dX8_wouldHave_20 : decode cX8_wouldHave 20 = .ok (.aload_n 0, 1) := by decide +kernel
theorem dX8_wouldHave_21 : decode cX8_wouldHave 21 = .ok (.getfield 25, 3) := by decide +kernel
theorem dX8_wouldHave_24 : decode cX8_wouldHave 24 = .ok (.iload_n 2, 1) := by decide +kernel
theorem dX8_wouldHave_25 : decode cX8_wouldHave 25 = .ok (.invokevirtual 192, 3) := by decide +kernel
theorem dX8_wouldHave_28 : decode cX8_wouldHave 28 = .ok (.aload_n 0, 1) := by decide +kernel
theorem dX8_wouldHave_29 : decode cX8_wouldHave 29 = .ok (.getfield 25, 3) := by decide +kernel
theorem dX8_wouldHave_32 : decode cX8_wouldHave 32 = .ok (.getfield 100, 3) := by decide +kernel
theorem dX8_wouldHave_35 : decode cX8_wouldHave 35 = .ok (.iload_n 1, 1) := by decide +kernel
theorem dX8_wouldHave_36 : decode cX8_wouldHave 36 = .ok (.aaload, 1) := by decide +kernel
theorem dX8_wouldHave_37 : decode cX8_wouldHave 37 = .ok (.astore_n 3, 1) := by decide +kernel
theorem dX8_wouldHave_38 : decode cX8_wouldHave 38 = .ok (.aload_n 3, 1) := by decide +kernel
theorem dX8_wouldHave_39 : decode cX8_wouldHave 39 = .ok (.getfield 137, 3) := by decide +kernel
theorem dX8_wouldHave_42 : decode cX8_wouldHave 42 = .ok (.iconst 2, 1) := by decide +kernel
theorem dX8_wouldHave_43 : decode cX8_wouldHave 43 = .ok (.if_icmp .ne 7, 3) := by decide +kernel
theorem dX8_wouldHave_46 : decode cX8_wouldHave 46 = .ok (.iconst (-1), 1) := by decide +kernel
theorem dX8_wouldHave_47 : decode cX8_wouldHave 47 = .ok (.goto 7, 3) := by decide +kernel
theorem dX8_wouldHave_50 : decode cX8_wouldHave 50 = .ok (.aload_n 3, 1) := by decide +kernel
theorem dX8_wouldHave_51 : decode cX8_wouldHave 51 = .ok (.getfield 121, 3) := by decide +kernel
theorem dX8_wouldHave_54 : decode cX8_wouldHave 54 = .ok (.ireturn, 1) := by decide +kernel
theorem dX8_digest_0 : decode cX8_digest 0 = .ok (.ldc2_w 255, 3) := by decide +kernel
theorem dX8_digest_3 : decode cX8_digest 3 = .ok (.lstore_n 1, 1) := by decide +kernel
theorem dX8_digest_4 : decode cX8_digest 4 = .ok (.iconst 0, 1) := by decide +kernel
theorem dX8_digest_5 : decode cX8_digest 5 = .ok (.istore_n 3, 1) := by decide +kernel
theorem dX8_digest_6 : decode cX8_digest 6 = .ok (.iload_n 3, 1) := by decide +kernel
theorem dX8_digest_7 : decode cX8_digest 7 = .ok (.bipush 15, 2) := by decide +kernel
theorem dX8_digest_9 : decode cX8_digest 9 = .ok (.if_icmp .gt 19, 3) := by decide +kernel
theorem dX8_digest_12 : decode cX8_digest 12 = .ok (.lload_n 1, 1) := by decide +kernel
theorem dX8_digest_13 : decode cX8_digest 13 = .ok (.aload_n 0, 1) := by decide +kernel
theorem dX8_digest_14 : decode cX8_digest 14 = .ok (.iload_n 3, 1) := by decide +kernel
theorem dX8_digest_15 : decode cX8_digest 15 = .ok (.invokevirtual 257, 3) := by decide +kernel
theorem dX8_digest_18 : decode cX8_digest 18 = .ok (.invokestatic 260, 3) := by decide +kernel
theorem dX8_digest_21 : decode cX8_digest 21 = .ok (.lstore_n 1, 1) := by decide +kernel
theorem dX8_digest_22 : decode cX8_digest 22 = .ok (.iinc 3 1, 3) := by decide +kernel
theorem dX8_digest_25 : decode cX8_digest 25 = .ok (.goto (-19), 3) := by decide +kernel
theorem dX8_digest_28 : decode cX8_digest 28 = .ok (.iconst 0, 1) := by decide +kernel
theorem dX8_digest_29 : decode cX8_digest 29 = .ok (.istore_n 3, 1) := by decide +kernel
theorem dX8_digest_30 : decode cX8_digest 30 = .ok (.iload_n 3, 1) := by decide +kernel
theorem dX8_digest_31 : decode cX8_digest 31 = .ok (.bipush 25, 2) := by decide +kernel
theorem dX8_digest_33 : decode cX8_digest 33 = .ok (.if_icmp .ge 55, 3) := by decide +kernel
theorem dX8_digest_36 : decode cX8_digest 36 = .ok (.iconst 0, 1) := by decide +kernel
theorem dX8_digest_37 : decode cX8_digest 37 = .ok (.istore 4, 2) := by decide +kernel
