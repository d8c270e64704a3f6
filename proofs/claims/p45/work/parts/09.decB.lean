theorem dX12_init_0 : decode cX12_init 0 = .ok (.aload_n 0, 1) := by decide +kernel
theorem dX12_init_1 : decode cX12_init 1 = .ok (.invokespecial 1, 3) := by decide +kernel
theorem dX12_init_4 : decode cX12_init 4 = .ok (.aload_n 0, 1) := by decide +kernel
theorem dX12_init_5 : decode cX12_init 5 = .ok (.iconst (-1), 1) := by decide +kernel
theorem dX12_init_6 : decode cX12_init 6 = .ok (.putfield 7, 3) := by decide +kernel
theorem dX12_init_9 : decode cX12_init 9 = .ok (.aload_n 0, 1) := by decide +kernel
theorem dX12_init_10 : decode cX12_init 10 = .ok (.iconst (-1), 1) := by decide +kernel
theorem dX12_init_11 : decode cX12_init 11 = .ok (.putfield 13, 3) := by decide +kernel
theorem dX12_init_14 : decode cX12_init 14 = .ok (.aload_n 0, 1) := by decide +kernel
theorem dX12_init_15 : decode cX12_init 15 = .ok (.bipush 8, 2) := by decide +kernel
theorem dX12_init_17 : decode cX12_init 17 = .ok (.newarray .int, 2) := by decide +kernel
theorem dX12_init_19 : decode cX12_init 19 = .ok (.putfield 16, 3) := by decide +kernel
theorem dX12_init_22 : decode cX12_init 22 = .ok (.aload_n 0, 1) := by decide +kernel
theorem dX12_init_23 : decode cX12_init 23 = .ok (.bipush 8, 2) := by decide +kernel
theorem dX12_init_25 : decode cX12_init 25 = .ok (.iconst 0, 1) := by decide +kernel
theorem dX12_init_26 : decode cX12_init 26 = .ok (.multianewarray 20 2, 4) := by decide +kernel
theorem dX12_init_30 : decode cX12_init 30 = .ok (.putfield 22, 3) := by decide +kernel
theorem dX12_init_33 : decode cX12_init 33 = .ok (.return_, 1) := by decide +kernel
theorem dX12_average_0 : decode cX12_average 0 = .ok (.iconst 0, 1) := by decide +kernel
theorem dX12_average_1 : decode cX12_average 1 = .ok (.istore_n 2, 1) := by decide +kernel
theorem dX12_average_2 : decode cX12_average 2 = .ok (.aload_n 0, 1) := by decide +kernel
theorem dX12_average_3 : decode cX12_average 3 = .ok (.getfield 22, 3) := by decide +kernel
theorem dX12_average_6 : decode cX12_average 6 = .ok (.iload_n 1, 1) := by decide +kernel
theorem dX12_average_7 : decode cX12_average 7 = .ok (.aaload, 1) := by decide +kernel
theorem dX12_average_8 : decode cX12_average 8 = .ok (.astore_n 3, 1) := by decide +kernel
theorem dX12_average_9 : decode cX12_average 9 = .ok (.aload_n 3, 1) := by decide +kernel
theorem dX12_average_10 : decode cX12_average 10 = .ok (.arraylength, 1) := by decide +kernel
theorem dX12_average_11 : decode cX12_average 11 = .ok (.istore 4, 2) := by decide +kernel
theorem dX12_average_13 : decode cX12_average 13 = .ok (.iconst 0, 1) := by decide +kernel
theorem dX12_average_14 : decode cX12_average 14 = .ok (.istore 5, 2) := by decide +kernel
theorem dX12_average_16 : decode cX12_average 16 = .ok (.iload 5, 2) := by decide +kernel
theorem dX12_average_18 : decode cX12_average 18 = .ok (.iload 4, 2) := by decide +kernel
theorem dX12_average_20 : decode cX12_average 20 = .ok (.if_icmp .ge 20, 3) := by decide +kernel
theorem dX12_average_23 : decode cX12_average 23 = .ok (.aload_n 3, 1) := by decide +kernel
theorem dX12_average_24 : decode cX12_average 24 = .ok (.iload 5, 2) := by decide +kernel
theorem dX12_average_26 : decode cX12_average 26 = .ok (.iaload, 1) := by decide +kernel
theorem dX12_average_27 : decode cX12_average 27 = .ok (.istore 6, 2) := by decide +kernel
theorem dX12_average_29 : decode cX12_average 29 = .ok (.iload_n 2, 1) := by decide +kernel
theorem dX12_average_30 : decode cX12_average 30 = .ok (.iload 6, 2) := by decide +kernel
theorem dX12_average_32 : decode cX12_average 32 = .ok (.iadd, 1) := by decide +kernel
theorem dX12_average_33 : decode cX12_average 33 = .ok (.istore_n 2, 1) := by decide +kernel
theorem dX12_average_34 : decode cX12_average 34 = .ok (.iinc 5 1, 3) := by decide +kernel
theorem dX12_average_37 : decode cX12_average 37 = .ok (.goto (-21), 3) := by decide +kernel
theorem dX12_average_40 : decode cX12_average 40 = .ok (.iload_n 2, 1) := by decide +kernel
theorem dX12_average_41 : decode cX12_average 41 = .ok (.aload_n 0, 1) := by decide +kernel
theorem dX12_average_42 : decode cX12_average 42 = .ok (.getfield 22, 3) := by decide +kernel
theorem dX12_average_45 : decode cX12_average 45 = .ok (.iload_n 1, 1) := by decide +kernel
theorem dX12_average_46 : decode cX12_average 46 = .ok (.aaload, 1) := by decide +kernel
theorem dX12_average_47 : decode cX12_average 47 = .ok (.arraylength, 1) := by decide +kernel
theorem dX12_average_48 : decode cX12_average 48 = .ok (.idiv, 1) := by decide +kernel
theorem dX12_average_49 : decode cX12_average 49 = .ok (.ireturn, 1) := by decide +kernel
theorem dX12_ends_0 : decode cX12_ends 0 = .ok (.aload_n 0, 1) := by decide +kernel
theorem dX12_ends_1 : decode cX12_ends 1 = .ok (.iconst 0, 1) := by decide +kernel
theorem dX12_ends_2 : decode cX12_ends 2 = .ok (.putfield 38, 3) := by decide +kernel
theorem dX12_ends_5 : decode cX12_ends 5 = .ok (.aload_n 0, 1) := by decide +kernel
theorem dX12_ends_6 : decode cX12_ends 6 = .ok (.iconst (-1), 1) := by decide +kernel
theorem dX12_ends_7 : decode cX12_ends 7 = .ok (.putfield 7, 3) := by decide +kernel
theorem dX12_ends_10 : decode cX12_ends 10 = .ok (.aload_n 0, 1) := by decide +kernel
theorem dX12_ends_11 : decode cX12_ends 11 = .ok (.iconst 0, 1) := by decide +kernel
theorem dX12_ends_12 : decode cX12_ends 12 = .ok (.putfield 41, 3) := by decide +kernel
theorem dX12_ends_15 : decode cX12_ends 15 = .ok (.aload_n 0, 1) := by decide +kernel
theorem dX12_ends_16 : decode cX12_ends 16 = .ok (.iconst (-1), 1) := by decide +kernel
theorem dX12_ends_17 : decode cX12_ends 17 = .ok (.putfield 13, 3) := by decide +kernel
theorem dX12_ends_20 : decode cX12_ends 20 = .ok (.return_, 1) := by decide +kernel
theorem dX12_begins_0 : decode cX12_begins 0 = .ok (.aload_n 0, 1) := by decide +kernel
theorem dX12_begins_1 : decode cX12_begins 1 = .ok (.iconst 1, 1) := by decide +kernel
theorem dX12_begins_2 : decode cX12_begins 2 = .ok (.putfield 38, 3) := by decide +kernel
theorem dX12_begins_5 : decode cX12_begins 5 = .ok (.aload_n 0, 1) := by decide +kernel
theorem dX12_begins_6 : decode cX12_begins 6 = .ok (.iload_n 1, 1) := by decide +kernel
theorem dX12_begins_7 : decode cX12_begins 7 = .ok (.putfield 7, 3) := by decide +kernel
theorem dX12_begins_10 : decode cX12_begins 10 = .ok (.aload_n 0, 1) := by decide +kernel
theorem dX12_begins_11 : decode cX12_begins 11 = .ok (.iconst 0, 1) := by decide +kernel
theorem dX12_begins_12 : decode cX12_begins 12 = .ok (.putfield 44, 3) := by decide +kernel
theorem dX12_begins_15 : decode cX12_begins 15 = .ok (.aload_n 0, 1) := by decide +kernel
theorem dX12_begins_16 : decode cX12_begins 16 = .ok (.iconst (-1), 1) := by decide +kernel
theorem dX12_begins_17 : decode cX12_begins 17 = .ok (.putfield 13, 3) := by decide +kernel
theorem dX12_begins_20 : decode cX12_begins 20 = .ok (.iconst 0, 1) := by decide +kernel
theorem dX12_begins_21 : decode cX12_begins 21 = .ok (.istore_n 2, 1) := by decide +kernel
theorem dX12_begins_22 : decode cX12_begins 22 = .ok (.iload_n 2, 1) := by decide +kernel
theorem dX12_begins_23 : decode cX12_begins 23 = .ok (.bipush 8, 2) := by decide +kernel
theorem dX12_begins_25 : decode cX12_begins 25 = .ok (.if_icmp .ge 25, 3) := by decide +kernel
theorem dX12_begins_28 : decode cX12_begins 28 = .ok (.aload_n 0, 1) := by decide +kernel
theorem dX12_begins_29 : decode cX12_begins 29 = .ok (.getfield 16, 3) := by decide +kernel
theorem dX12_begins_32 : decode cX12_begins 32 = .ok (.iload_n 2, 1) := by decide +kernel
theorem dX12_begins_33 : decode cX12_begins 33 = .ok (.iconst (-1), 1) := by decide +kernel
theorem dX12_begins_34 : decode cX12_begins 34 = .ok (.iastore, 1) := by decide +kernel
theorem dX12_begins_35 : decode cX12_begins 35 = .ok (.aload_n 0, 1) := by decide +kernel
theorem dX12_begins_36 : decode cX12_begins 36 = .ok (.getfield 22, 3) := by decide +kernel
theorem dX12_begins_39 : decode cX12_begins 39 = .ok (.iload_n 2, 1) := by decide +kernel
theorem dX12_begins_40 : decode cX12_begins 40 = .ok (.iconst 0, 1) := by decide +kernel
theorem dX12_begins_41 : decode cX12_begins 41 = .ok (.newarray .int, 2) := by decide +kernel
theorem dX12_begins_43 : decode cX12_begins 43 = .ok (.aastore, 1) := by decide +kernel
theorem dX12_begins_44 : decode cX12_begins 44 = .ok (.iinc 2 1, 3) := by decide +kernel
theorem dX12_begins_47 : decode cX12_begins 47 = .ok (.goto (-25), 3) := by decide +kernel
theorem dX12_begins_50 : decode cX12_begins 50 = .ok (.return_, 1) := by decide +kernel
theorem dX13_init_0 : decode cX13_init 0 = .ok (.aload_n 0, 1) := by decide +kernel
theorem dX13_init_1 : decode cX13_init 1 = .ok (.invokespecial 1, 3) := by decide +kernel
theorem dX13_init_4 : decode cX13_init 4 = .ok (.aload_n 0, 1) := by decide +kernel
theorem dX13_init_5 : decode cX13_init 5 = .ok (.iconst 4, 1) := by decide +kernel
theorem dX13_init_6 : decode cX13_init 6 = .ok (.putfield 7, 3) := by decide +kernel
theorem dX13_init_9 : decode cX13_init 9 = .ok (.aload_n 0, 1) := by decide +kernel
theorem dX13_init_10 : decode cX13_init 10 = .ok (.iconst 2, 1) := by decide +kernel
theorem dX13_init_11 : decode cX13_init 11 = .ok (.putfield 13, 3) := by decide +kernel
theorem dX13_init_14 : decode cX13_init 14 = .ok (.aload_n 0, 1) := by decide +kernel
theorem dX13_init_15 : decode cX13_init 15 = .ok (.iconst 5, 1) := by decide +kernel
theorem dX13_init_16 : decode cX13_init 16 = .ok (.putfield 16, 3) := by decide +kernel
theorem dX13_init_19 : decode cX13_init 19 = .ok (.aload_n 0, 1) := by decide +kernel
theorem dX13_init_20 : decode cX13_init 20 = .ok (.iconst 4, 1) := by decide +kernel
theorem dX13_init_21 : decode cX13_init 21 = .ok (.putfield 19, 3) := by decide +kernel
theorem dX13_init_24 : decode cX13_init 24 = .ok (.aload_n 0, 1) := by decide +kernel
theorem dX13_init_25 : decode cX13_init 25 = .ok (.iconst 5, 1) := by decide +kernel
theorem dX13_init_26 : decode cX13_init 26 = .ok (.putfield 22, 3) := by decide +kernel
theorem dX13_init_29 : decode cX13_init 29 = .ok (.aload_n 0, 1) := by decide +kernel
theorem dX13_init_30 : decode cX13_init 30 = .ok (.iconst 3, 1) := by decide +kernel
theorem dX13_init_31 : decode cX13_init 31 = .ok (.putfield 25, 3) := by decide +kernel
theorem dX13_init_34 : decode cX13_init 34 = .ok (.aload_n 0, 1) := by decide +kernel
theorem dX13_init_35 : decode cX13_init 35 = .ok (.bipush 8, 2) := by decide +kernel
theorem dX13_init_37 : decode cX13_init 37 = .ok (.anewarray 28, 3) := by decide +kernel
theorem dX13_init_40 : decode cX13_init 40 = .ok (.putfield 30, 3) := by decide +kernel
theorem dX13_init_43 : decode cX13_init 43 = .ok (.aload_n 0, 1) := by decide +kernel
theorem dX13_init_44 : decode cX13_init 44 = .ok (.bipush 8, 2) := by decide +kernel
theorem dX13_init_46 : decode cX13_init 46 = .ok (.bipush 8, 2) := by decide +kernel
theorem dX13_init_48 : decode cX13_init 48 = .ok (.multianewarray 34 2, 4) := by decide +kernel
theorem dX13_init_52 : decode cX13_init 52 = .ok (.putfield 35, 3) := by decide +kernel
theorem dX13_init_55 : decode cX13_init 55 = .ok (.aload_n 0, 1) := by decide +kernel
theorem dX13_init_56 : decode cX13_init 56 = .ok (.bipush 8, 2) := by decide +kernel
theorem dX13_init_58 : decode cX13_init 58 = .ok (.bipush 8, 2) := by decide +kernel
theorem dX13_init_60 : decode cX13_init 60 = .ok (.multianewarray 34 2, 4) := by decide +kernel
theorem dX13_init_64 : decode cX13_init 64 = .ok (.putfield 38, 3) := by decide +kernel
theorem dX13_init_67 : decode cX13_init 67 = .ok (.aload_n 0, 1) := by decide +kernel
theorem dX13_init_68 : decode cX13_init 68 = .ok (.bipush 8, 2) := by decide +kernel
theorem dX13_init_70 : decode cX13_init 70 = .ok (.bipush 8, 2) := by decide +kernel
theorem dX13_init_72 : decode cX13_init 72 = .ok (.multianewarray 34 2, 4) := by decide +kernel
theorem dX13_init_76 : decode cX13_init 76 = .ok (.putfield 41, 3) := by decide +kernel
theorem dX13_init_79 : decode cX13_init 79 = .ok (.aload_n 0, 1) := by decide +kernel
theorem dX13_init_80 : decode cX13_init 80 = .ok (.bipush 8, 2) := by decide +kernel
theorem dX13_init_82 : decode cX13_init 82 = .ok (.newarray .int, 2) := by decide +kernel
theorem dX13_init_84 : decode cX13_init 84 = .ok (.putfield 44, 3) := by decide +kernel
theorem dX13_init_87 : decode cX13_init 87 = .ok (.aload_n 0, 1) := by decide +kernel
theorem dX13_init_88 : decode cX13_init 88 = .ok (.bipush 8, 2) := by decide +kernel
theorem dX13_init_90 : decode cX13_init 90 = .ok (.newarray .int, 2) := by decide +kernel
theorem dX13_init_92 : decode cX13_init 92 = .ok (.putfield 47, 3) := by decide +kernel
theorem dX13_init_95 : decode cX13_init 95 = .ok (.aload_n 0, 1) := by decide +kernel
theorem dX13_init_96 : decode cX13_init 96 = .ok (.bipush 12, 2) := by decide +kernel
theorem dX13_init_98 : decode cX13_init 98 = .ok (.anewarray 50, 3) := by decide +kernel
theorem dX13_init_101 : decode cX13_init 101 = .ok (.putfield 52, 3) := by decide +kernel
theorem dX13_init_104 : decode cX13_init 104 = .ok (.return_, 1) := by decide +kernel
theorem dX13_level_0 : decode cX13_level 0 = .ok (.aload_n 0, 1) := by decide +kernel
theorem dX13_level_1 : decode cX13_level 1 = .ok (.getfield 30, 3) := by decide +kernel
theorem dX13_level_4 : decode cX13_level 4 = .ok (.iload_n 1, 1) := by decide +kernel
theorem dX13_level_5 : decode cX13_level 5 = .ok (.aaload, 1) := by decide +kernel
theorem dX13_level_6 : decode cX13_level 6 = .ok (.iconst 2, 1) := by decide +kernel
theorem dX13_level_7 : decode cX13_level 7 = .ok (.iaload, 1) := by decide +kernel
theorem dX13_level_8 : decode cX13_level 8 = .ok (.aload_n 0, 1) := by decide +kernel
theorem dX13_level_9 : decode cX13_level 9 = .ok (.getfield 30, 3) := by decide +kernel
theorem dX13_level_12 : decode cX13_level 12 = .ok (.iload_n 1, 1) := by decide +kernel
theorem dX13_level_13 : decode cX13_level 13 = .ok (.aaload, 1) := by decide +kernel
theorem dX13_level_14 : decode cX13_level 14 = .ok (.iconst 3, 1) := by decide +kernel
theorem dX13_level_15 : decode cX13_level 15 = .ok (.iaload, 1) := by decide +kernel
theorem dX13_level_16 : decode cX13_level 16 = .ok (.aload_n 0, 1) := by decide +kernel
theorem dX13_level_17 : decode cX13_level 17 = .ok (.getfield 30, 3) := by decide +kernel
theorem dX13_level_20 : decode cX13_level 20 = .ok (.iload_n 1, 1) := by decide +kernel
theorem dX13_level_21 : decode cX13_level 21 = .ok (.aaload, 1) := by decide +kernel
theorem dX13_level_22 : decode cX13_level 22 = .ok (.iconst 0, 1) := by decide +kernel
theorem dX13_level_23 : decode cX13_level 23 = .ok (.iaload, 1) := by decide +kernel
theorem dX13_level_24 : decode cX13_level 24 = .ok (.iload_n 2, 1) := by decide +kernel
theorem dX13_level_25 : decode cX13_level 25 = .ok (.isub, 1) := by decide +kernel
theorem dX13_level_26 : decode cX13_level 26 = .ok (.invokestatic 74, 3) := by decide +kernel
theorem dX13_level_29 : decode cX13_level 29 = .ok (.aload_n 0, 1) := by decide +kernel
theorem dX13_level_30 : decode cX13_level 30 = .ok (.getfield 30, 3) := by decide +kernel
theorem dX13_level_33 : decode cX13_level 33 = .ok (.iload_n 1, 1) := by decide +kernel
theorem dX13_level_34 : decode cX13_level 34 = .ok (.aaload, 1) := by decide +kernel
theorem dX13_level_35 : decode cX13_level 35 = .ok (.iconst 1, 1) := by decide +kernel
theorem dX13_level_36 : decode cX13_level 36 = .ok (.iaload, 1) := by decide +kernel
theorem dX13_level_37 : decode cX13_level 37 = .ok (.iload_n 3, 1) := by decide +kernel
theorem dX13_level_38 : decode cX13_level 38 = .ok (.isub, 1) := by decide +kernel
theorem dX13_level_39 : decode cX13_level 39 = .ok (.invokestatic 74, 3) := by decide +kernel
theorem dX13_level_42 : decode cX13_level 42 = .ok (.iadd, 1) := by decide +kernel
theorem dX13_level_43 : decode cX13_level 43 = .ok (.imul, 1) := by decide +kernel
theorem dX13_level_44 : decode cX13_level 44 = .ok (.bipush 100, 2) := by decide +kernel
theorem dX13_level_46 : decode cX13_level 46 = .ok (.idiv, 1) := by decide +kernel
theorem dX13_level_47 : decode cX13_level 47 = .ok (.isub, 1) := by decide +kernel
theorem dX13_level_48 : decode cX13_level 48 = .ok (.istore 4, 2) := by decide +kernel
theorem dX13_level_50 : decode cX13_level 50 = .ok (.iload 4, 2) := by decide +kernel
theorem dX13_level_52 : decode cX13_level 52 = .ok (.ifCond .ge 7, 3) := by decide +kernel
theorem dX13_level_55 : decode cX13_level 55 = .ok (.iconst 0, 1) := by decide +kernel
theorem dX13_level_56 : decode cX13_level 56 = .ok (.goto 5, 3) := by decide +kernel
theorem dX13_level_59 : decode cX13_level 59 = .ok (.iload 4, 2) := by decide +kernel
theorem dX13_level_61 : decode cX13_level 61 = .ok (.ireturn, 1) := by decide +kernel
theorem dX13_strongest_0 : decode cX13_strongest 0 = .ok (.iconst (-1), 1) := by decide +kernel
theorem dX13_strongest_1 : decode cX13_strongest 1 = .ok (.istore_n 3, 1) := by decide +kernel
theorem dX13_strongest_2 : decode cX13_strongest 2 = .ok (.aload_n 0, 1) := by decide +kernel
theorem dX13_strongest_3 : decode cX13_strongest 3 = .ok (.getfield 57, 3) := by decide +kernel
theorem dX13_strongest_6 : decode cX13_strongest 6 = .ok (.iconst 1, 1) := by decide +kernel
theorem dX13_strongest_7 : decode cX13_strongest 7 = .ok (.isub, 1) := by decide +kernel
theorem dX13_strongest_8 : decode cX13_strongest 8 = .ok (.istore 4, 2) := by decide +kernel
theorem dX13_strongest_10 : decode cX13_strongest 10 = .ok (.iload 4, 2) := by decide +kernel
theorem dX13_strongest_12 : decode cX13_strongest 12 = .ok (.ifCond .lt 34, 3) := by decide +kernel
theorem dX13_strongest_15 : decode cX13_strongest 15 = .ok (.iload_n 3, 1) := by decide +kernel
theorem dX13_strongest_16 : decode cX13_strongest 16 = .ok (.ifCond .lt 21, 3) := by decide +kernel
theorem dX13_strongest_19 : decode cX13_strongest 19 = .ok (.aload_n 0, 1) := by decide +kernel
theorem dX13_strongest_20 : decode cX13_strongest 20 = .ok (.iload 4, 2) := by decide +kernel
theorem dX13_strongest_22 : decode cX13_strongest 22 = .ok (.iload_n 1, 1) := by decide +kernel
theorem dX13_strongest_23 : decode cX13_strongest 23 = .ok (.iload_n 2, 1) := by decide +kernel
theorem dX13_strongest_24 : decode cX13_strongest 24 = .ok (.invokevirtual 80, 3) := by decide +kernel
theorem dX13_strongest_27 : decode cX13_strongest 27 = .ok (.aload_n 0, 1) := by decide +kernel
theorem dX13_strongest_28 : decode cX13_strongest 28 = .ok (.iload_n 3, 1) := by decide +kernel
theorem dX13_strongest_29 : decode cX13_strongest 29 = .ok (.iload_n 1, 1) := by decide +kernel
theorem dX13_strongest_30 : decode cX13_strongest 30 = .ok (.iload_n 2, 1) := by decide +kernel
theorem dX13_strongest_31 : decode cX13_strongest 31 = .ok (.invokevirtual 80, 3) := by decide +kernel
theorem dX13_strongest_34 : decode cX13_strongest 34 = .ok (.if_icmp .lt 6, 3) := by decide +kernel
theorem dX13_strongest_37 : decode cX13_strongest 37 = .ok (.iload 4, 2) := by decide +kernel
theorem dX13_strongest_39 : decode cX13_strongest 39 = .ok (.istore_n 3, 1) := by decide +kernel
theorem dX13_strongest_40 : decode cX13_strongest 40 = .ok (.iinc 4 (-1), 3) := by decide +kernel
theorem dX13_strongest_43 : decode cX13_strongest 43 = .ok (.goto (-33), 3) := by decide +kernel
theorem dX13_strongest_46 : decode cX13_strongest 46 = .ok (.iload_n 3, 1) := by decide +kernel
theorem dX13_strongest_47 : decode cX13_strongest 47 = .ok (.ireturn, 1) := by decide +kernel
theorem dX13_covers_0 : decode cX13_covers 0 = .ok (.aload_n 0, 1) := by decide +kernel
theorem dX13_covers_1 : decode cX13_covers 1 = .ok (.iload_n 1, 1) := by decide +kernel
theorem dX13_covers_2 : decode cX13_covers 2 = .ok (.iload_n 2, 1) := by decide +kernel
theorem dX13_covers_3 : decode cX13_covers 3 = .ok (.invokevirtual 84, 3) := by decide +kernel
theorem dX13_covers_6 : decode cX13_covers 6 = .ok (.istore_n 3, 1) := by decide +kernel
theorem dX13_covers_7 : decode cX13_covers 7 = .ok (.iload_n 3, 1) := by decide +kernel
theorem dX13_covers_8 : decode cX13_covers 8 = .ok (.ifCond .lt 26, 3) := by decide +kernel
theorem dX13_covers_11 : decode cX13_covers 11 = .ok (.aload_n 0, 1) := by decide +kernel
theorem dX13_covers_12 : decode cX13_covers 12 = .ok (.iload_n 3, 1) := by decide +kernel
theorem dX13_covers_13 : decode cX13_covers 13 = .ok (.iload_n 1, 1) := by decide +kernel
theorem dX13_covers_14 : decode cX13_covers 14 = .ok (.iload_n 2, 1) := by decide +kernel
theorem dX13_covers_15 : decode cX13_covers 15 = .ok (.invokevirtual 80, 3) := by decide +kernel
theorem dX13_covers_18 : decode cX13_covers 18 = .ok (.aload_n 0, 1) := by decide +kernel
theorem dX13_covers_19 : decode cX13_covers 19 = .ok (.getfield 30, 3) := by decide +kernel
theorem dX13_covers_22 : decode cX13_covers 22 = .ok (.iload_n 3, 1) := by decide +kernel
theorem dX13_covers_23 : decode cX13_covers 23 = .ok (.aaload, 1) := by decide +kernel
theorem dX13_covers_24 : decode cX13_covers 24 = .ok (.bipush 6, 2) := by decide +kernel
theorem dX13_covers_26 : decode cX13_covers 26 = .ok (.iaload, 1) := by decide +kernel
theorem dX13_covers_27 : decode cX13_covers 27 = .ok (.if_icmp .lt 7, 3) := by decide +kernel
theorem dX13_covers_30 : decode cX13_covers 30 = .ok (.iload_n 3, 1) := by decide +kernel
theorem dX13_covers_31 : decode cX13_covers 31 = .ok (.goto 4, 3) := by decide +kernel
theorem dX13_covers_34 : decode cX13_covers 34 = .ok (.iconst (-1), 1) := by decide +kernel
theorem dX13_covers_35 : decode cX13_covers 35 = .ok (.ireturn, 1) := by decide +kernel
theorem dX13_busy_0 : decode cX13_busy 0 = .ok (.iconst 0, 1) := by decide +kernel
theorem dX13_busy_1 : decode cX13_busy 1 = .ok (.istore_n 2, 1) := by decide +kernel
theorem dX13_busy_2 : decode cX13_busy 2 = .ok (.iconst 0, 1) := by decide +kernel
theorem dX13_busy_3 : decode cX13_busy 3 = .ok (.istore_n 3, 1) := by decide +kernel
theorem dX13_busy_4 : decode cX13_busy 4 = .ok (.iload_n 3, 1) := by decide +kernel
theorem dX13_busy_5 : decode cX13_busy 5 = .ok (.aload_n 0, 1) := by decide +kernel
theorem dX13_busy_6 : decode cX13_busy 6 = .ok (.getfield 60, 3) := by decide +kernel
theorem dX13_busy_9 : decode cX13_busy 9 = .ok (.if_icmp .ge 38, 3) := by decide +kernel
theorem dX13_busy_12 : decode cX13_busy 12 = .ok (.aload_n 0, 1) := by decide +kernel
theorem dX13_busy_13 : decode cX13_busy 13 = .ok (.getfield 52, 3) := by decide +kernel
theorem dX13_busy_16 : decode cX13_busy 16 = .ok (.iload_n 3, 1) := by decide +kernel
theorem dX13_busy_17 : decode cX13_busy 17 = .ok (.aaload, 1) := by decide +kernel
theorem dX13_busy_18 : decode cX13_busy 18 = .ok (.getfield 88, 3) := by decide +kernel
theorem dX13_busy_21 : decode cX13_busy 21 = .ok (.iconst 1, 1) := by decide +kernel
theorem dX13_busy_22 : decode cX13_busy 22 = .ok (.if_icmp .ne 19, 3) := by decide +kernel
theorem dX13_busy_25 : decode cX13_busy 25 = .ok (.aload_n 0, 1) := by decide +kernel
theorem dX13_busy_26 : decode cX13_busy 26 = .ok (.getfield 52, 3) := by decide +kernel
theorem dX13_busy_29 : decode cX13_busy 29 = .ok (.iload_n 3, 1) := by decide +kernel
theorem dX13_busy_30 : decode cX13_busy 30 = .ok (.aaload, 1) := by decide +kernel
theorem dX13_busy_31 : decode cX13_busy 31 = .ok (.getfield 91, 3) := by decide +kernel
theorem dX13_busy_34 : decode cX13_busy 34 = .ok (.iload_n 1, 1) := by decide +kernel
theorem dX13_busy_35 : decode cX13_busy 35 = .ok (.if_icmp .ne 6, 3) := by decide +kernel
theorem dX13_busy_38 : decode cX13_busy 38 = .ok (.iinc 2 1, 3) := by decide +kernel
theorem dX13_busy_41 : decode cX13_busy 41 = .ok (.iinc 3 1, 3) := by decide +kernel
theorem dX13_busy_44 : decode cX13_busy 44 = .ok (.goto (-40), 3) := by decide +kernel
theorem dX13_busy_47 : decode cX13_busy 47 = .ok (.iload_n 2, 1) := by decide +kernel
theorem dX13_busy_48 : decode cX13_busy 48 = .ok (.ireturn, 1) := by decide +kernel
theorem dX13_free_0 : decode cX13_free 0 = .ok (.aload_n 0, 1) := by decide +kernel
theorem dX13_free_1 : decode cX13_free 1 = .ok (.iload_n 1, 1) := by decide +kernel
theorem dX13_free_2 : decode cX13_free 2 = .ok (.invokevirtual 93, 3) := by decide +kernel
theorem dX13_free_5 : decode cX13_free 5 = .ok (.aload_n 0, 1) := by decide +kernel
theorem dX13_free_6 : decode cX13_free 6 = .ok (.getfield 30, 3) := by decide +kernel
theorem dX13_free_9 : decode cX13_free 9 = .ok (.iload_n 1, 1) := by decide +kernel
theorem dX13_free_10 : decode cX13_free 10 = .ok (.aaload, 1) := by decide +kernel
theorem dX13_free_11 : decode cX13_free 11 = .ok (.iconst 4, 1) := by decide +kernel
theorem dX13_free_12 : decode cX13_free 12 = .ok (.iaload, 1) := by decide +kernel
theorem dX13_free_13 : decode cX13_free 13 = .ok (.if_icmp .ge 7, 3) := by decide +kernel
theorem dX13_free_16 : decode cX13_free 16 = .ok (.iconst 1, 1) := by decide +kernel
theorem dX13_free_17 : decode cX13_free 17 = .ok (.goto 4, 3) := by decide +kernel
theorem dX13_free_20 : decode cX13_free 20 = .ok (.iconst 0, 1) := by decide +kernel
theorem dX13_free_21 : decode cX13_free 21 = .ok (.ireturn, 1) := by decide +kernel
theorem dX13_waits_0 : decode cX13_waits 0 = .ok (.iconst 0, 1) := by decide +kernel
theorem dX13_waits_1 : decode cX13_waits 1 = .ok (.istore_n 2, 1) := by decide +kernel
theorem dX13_waits_2 : decode cX13_waits 2 = .ok (.iconst 0, 1) := by decide +kernel
theorem dX13_waits_3 : decode cX13_waits 3 = .ok (.istore_n 3, 1) := by decide +kernel
theorem dX13_waits_4 : decode cX13_waits 4 = .ok (.iload_n 3, 1) := by decide +kernel
theorem dX13_waits_5 : decode cX13_waits 5 = .ok (.aload_n 0, 1) := by decide +kernel
theorem dX13_waits_6 : decode cX13_waits 6 = .ok (.getfield 60, 3) := by decide +kernel
theorem dX13_waits_9 : decode cX13_waits 9 = .ok (.if_icmp .ge 25, 3) := by decide +kernel
theorem dX13_waits_12 : decode cX13_waits 12 = .ok (.aload_n 0, 1) := by decide +kernel
theorem dX13_waits_13 : decode cX13_waits 13 = .ok (.getfield 52, 3) := by decide +kernel
theorem dX13_waits_16 : decode cX13_waits 16 = .ok (.iload_n 3, 1) := by decide +kernel
theorem dX13_waits_17 : decode cX13_waits 17 = .ok (.aaload, 1) := by decide +kernel
theorem dX13_waits_18 : decode cX13_waits 18 = .ok (.getfield 96, 3) := by decide +kernel
theorem dX13_waits_21 : decode cX13_waits 21 = .ok (.iload_n 1, 1) := by decide +kernel
theorem dX13_waits_22 : decode cX13_waits 22 = .ok (.if_icmp .ne 6, 3) := by decide +kernel
theorem dX13_waits_25 : decode cX13_waits 25 = .ok (.iinc 2 1, 3) := by decide +kernel
theorem dX13_waits_28 : decode cX13_waits 28 = .ok (.iinc 3 1, 3) := by decide +kernel
theorem dX13_waits_31 : decode cX13_waits 31 = .ok (.goto (-27), 3) := by decide +kernel
theorem dX13_waits_34 : decode cX13_waits 34 = .ok (.iload_n 2, 1) := by decide +kernel
theorem dX13_waits_35 : decode cX13_waits 35 = .ok (.ireturn, 1) := by decide +kernel
theorem dX13_queue_0 : decode cX13_queue 0 = .ok (.aload_n 0, 1) := by decide +kernel
theorem dX13_queue_1 : decode cX13_queue 1 = .ok (.iload_n 1, 1) := by decide +kernel
theorem dX13_queue_2 : decode cX13_queue 2 = .ok (.invokevirtual 99, 3) := by decide +kernel
theorem dX13_queue_5 : decode cX13_queue 5 = .ok (.newarray .int, 2) := by decide +kernel
theorem dX13_queue_7 : decode cX13_queue 7 = .ok (.astore_n 2, 1) := by decide +kernel
theorem dX13_queue_8 : decode cX13_queue 8 = .ok (.iconst 0, 1) := by decide +kernel
theorem dX13_queue_9 : decode cX13_queue 9 = .ok (.istore_n 3, 1) := by decide +kernel
theorem dX13_queue_10 : decode cX13_queue 10 = .ok (.iconst 0, 1) := by decide +kernel
theorem dX13_queue_11 : decode cX13_queue 11 = .ok (.istore 4, 2) := by decide +kernel
theorem dX13_queue_13 : decode cX13_queue 13 = .ok (.iload 4, 2) := by decide +kernel
theorem dX13_queue_15 : decode cX13_queue 15 = .ok (.iconst 2, 1) := by decide +kernel
theorem dX13_queue_16 : decode cX13_queue 16 = .ok (.if_icmp .ge 99, 3) := by decide +kernel
theorem dX13_queue_19 : decode cX13_queue 19 = .ok (.bipush 40, 2) := by decide +kernel
theorem dX13_queue_21 : decode cX13_queue 21 = .ok (.istore 5, 2) := by decide +kernel
theorem dX13_queue_23 : decode cX13_queue 23 = .ok (.iload 5, 2) := by decide +kernel
theorem dX13_queue_25 : decode cX13_queue 25 = .ok (.ifCond .lt 84, 3) := by decide +kernel
theorem dX13_queue_28 : decode cX13_queue 28 = .ok (.iconst 0, 1) := by decide +kernel
theorem dX13_queue_29 : decode cX13_queue 29 = .ok (.istore 6, 2) := by decide +kernel
theorem dX13_queue_31 : decode cX13_queue 31 = .ok (.iload 6, 2) := by decide +kernel
theorem dX13_queue_33 : decode cX13_queue 33 = .ok (.aload_n 0, 1) := by decide +kernel
theorem dX13_queue_34 : decode cX13_queue 34 = .ok (.getfield 60, 3) := by decide +kernel
theorem dX13_queue_37 : decode cX13_queue 37 = .ok (.if_icmp .ge 66, 3) := by decide +kernel
theorem dX13_queue_40 : decode cX13_queue 40 = .ok (.aload_n 0, 1) := by decide +kernel
theorem dX13_queue_41 : decode cX13_queue 41 = .ok (.getfield 52, 3) := by decide +kernel
theorem dX13_queue_44 : decode cX13_queue 44 = .ok (.iload 6, 2) := by decide +kernel
theorem dX13_queue_46 : decode cX13_queue 46 = .ok (.aaload, 1) := by decide +kernel
theorem dX13_queue_47 : decode cX13_queue 47 = .ok (.getfield 96, 3) := by decide +kernel
theorem dX13_queue_50 : decode cX13_queue 50 = .ok (.iload_n 1, 1) := by decide +kernel
theorem dX13_queue_51 : decode cX13_queue 51 = .ok (.if_icmp .ne 46, 3) := by decide +kernel
theorem dX13_queue_54 : decode cX13_queue 54 = .ok (.aload_n 0, 1) := by decide +kernel
theorem dX13_queue_55 : decode cX13_queue 55 = .ok (.getfield 52, 3) := by decide +kernel
theorem dX13_queue_58 : decode cX13_queue 58 = .ok (.iload 6, 2) := by decide +kernel
theorem dX13_queue_60 : decode cX13_queue 60 = .ok (.aaload, 1) := by decide +kernel
theorem dX13_queue_61 : decode cX13_queue 61 = .ok (.getfield 102, 3) := by decide +kernel
theorem dX13_queue_64 : decode cX13_queue 64 = .ok (.iload 4, 2) := by decide +kernel
theorem dX13_queue_66 : decode cX13_queue 66 = .ok (.if_icmp .ne 31, 3) := by decide +kernel
theorem dX13_queue_69 : decode cX13_queue 69 = .ok (.aload_n 0, 1) := by decide +kernel
theorem dX13_queue_70 : decode cX13_queue 70 = .ok (.getfield 63, 3) := by decide +kernel
theorem dX13_queue_73 : decode cX13_queue 73 = .ok (.aload_n 0, 1) := by decide +kernel
theorem dX13_queue_74 : decode cX13_queue 74 = .ok (.getfield 52, 3) := by decide +kernel
theorem dX13_queue_77 : decode cX13_queue 77 = .ok (.iload 6, 2) := by decide +kernel
theorem dX13_queue_79 : decode cX13_queue 79 = .ok (.aaload, 1) := by decide +kernel
theorem dX13_queue_80 : decode cX13_queue 80 = .ok (.getfield 105, 3) := by decide +kernel
theorem dX13_queue_83 : decode cX13_queue 83 = .ok (.isub, 1) := by decide +kernel
theorem dX13_queue_84 : decode cX13_queue 84 = .ok (.iload 5, 2) := by decide +kernel
theorem dX13_queue_86 : decode cX13_queue 86 = .ok (.if_icmp .ne 11, 3) := by decide +kernel
theorem dX13_queue_89 : decode cX13_queue 89 = .ok (.aload_n 2, 1) := by decide +kernel
theorem dX13_queue_90 : decode cX13_queue 90 = .ok (.iload_n 3, 1) := by decide +kernel
theorem dX13_queue_91 : decode cX13_queue 91 = .ok (.iinc 3 1, 3) := by decide +kernel
theorem dX13_queue_94 : decode cX13_queue 94 = .ok (.iload 6, 2) := by decide +kernel
theorem dX13_queue_96 : decode cX13_queue 96 = .ok (.iastore, 1) := by decide +kernel
theorem dX13_queue_97 : decode cX13_queue 97 = .ok (.iinc 6 1, 3) := by decide +kernel
theorem dX13_queue_100 : decode cX13_queue 100 = .ok (.goto (-69), 3) := by decide +kernel
theorem dX13_queue_103 : decode cX13_queue 103 = .ok (.iinc 5 (-1), 3) := by decide +kernel
theorem dX13_queue_106 : decode cX13_queue 106 = .ok (.goto (-83), 3) := by decide +kernel
theorem dX13_queue_109 : decode cX13_queue 109 = .ok (.iinc 4 1, 3) := by decide +kernel
theorem dX13_queue_112 : decode cX13_queue 112 = .ok (.goto (-99), 3) := by decide +kernel
theorem dX13_queue_115 : decode cX13_queue 115 = .ok (.aload_n 2, 1) := by decide +kernel
theorem dX13_queue_116 : decode cX13_queue 116 = .ok (.areturn, 1) := by decide +kernel
theorem dX13_call_0 : decode cX13_call 0 = .ok (.aload_n 0, 1) := by decide +kernel
theorem dX13_call_1 : decode cX13_call 1 = .ok (.getfield 52, 3) := by decide +kernel
theorem dX13_call_4 : decode cX13_call 4 = .ok (.iload_n 1, 1) := by decide +kernel
theorem dX13_call_5 : decode cX13_call 5 = .ok (.aaload, 1) := by decide +kernel
theorem dX13_call_6 : decode cX13_call 6 = .ok (.astore_n 3, 1) := by decide +kernel
theorem dX13_call_7 : decode cX13_call 7 = .ok (.aload_n 3, 1) := by decide +kernel
theorem dX13_call_8 : decode cX13_call 8 = .ok (.getfield 88, 3) := by decide +kernel
theorem dX13_call_11 : decode cX13_call 11 = .ok (.ifCond .eq 6, 3) := by decide +kernel
theorem dX13_call_14 : decode cX13_call 14 = .ok (.bipush (-2), 2) := by decide +kernel
theorem dX13_call_16 : decode cX13_call 16 = .ok (.ireturn, 1) := by decide +kernel
theorem dX13_call_17 : decode cX13_call 17 = .ok (.aload_n 0, 1) := by decide +kernel
theorem dX13_call_18 : decode cX13_call 18 = .ok (.aload_n 3, 1) := by decide +kernel
theorem dX13_call_19 : decode cX13_call 19 = .ok (.getfield 108, 3) := by decide +kernel
theorem dX13_call_22 : decode cX13_call 22 = .ok (.aload_n 3, 1) := by decide +kernel
theorem dX13_call_23 : decode cX13_call 23 = .ok (.getfield 111, 3) := by decide +kernel
theorem dX13_call_26 : decode cX13_call 26 = .ok (.invokevirtual 114, 3) := by decide +kernel
theorem dX13_call_29 : decode cX13_call 29 = .ok (.istore 4, 2) := by decide +kernel
theorem dX13_call_31 : decode cX13_call 31 = .ok (.iload 4, 2) := by decide +kernel
theorem dX13_call_33 : decode cX13_call 33 = .ok (.ifCond .ge 6, 3) := by decide +kernel
theorem dX13_call_36 : decode cX13_call 36 = .ok (.bipush (-4), 2) := by decide +kernel
theorem dX13_call_38 : decode cX13_call 38 = .ok (.ireturn, 1) := by decide +kernel
theorem dX13_call_39 : decode cX13_call 39 = .ok (.aload_n 0, 1) := by decide +kernel
theorem dX13_call_40 : decode cX13_call 40 = .ok (.iload 4, 2) := by decide +kernel
theorem dX13_call_42 : decode cX13_call 42 = .ok (.invokevirtual 117, 3) := by decide +kernel
theorem dX13_call_45 : decode cX13_call 45 = .ok (.ifCond .eq 8, 3) := by decide +kernel
theorem dX13_call_48 : decode cX13_call 48 = .ok (.iload 4, 2) := by decide +kernel
theorem dX13_call_50 : decode cX13_call 50 = .ok (.goto 4, 3) := by decide +kernel
theorem dX13_call_53 : decode cX13_call 53 = .ok (.iconst (-1), 1) := by decide +kernel
theorem dX13_call_54 : decode cX13_call 54 = .ok (.istore 5, 2) := by decide +kernel
theorem dX13_call_56 : decode cX13_call 56 = .ok (.iconst 0, 1) := by decide +kernel
theorem dX13_call_57 : decode cX13_call 57 = .ok (.istore 6, 2) := by decide +kernel
theorem dX13_call_59 : decode cX13_call 59 = .ok (.iload 6, 2) := by decide +kernel
theorem dX13_call_61 : decode cX13_call 61 = .ok (.aload_n 0, 1) := by decide +kernel
theorem dX13_call_62 : decode cX13_call 62 = .ok (.getfield 57, 3) := by decide +kernel
theorem dX13_call_65 : decode cX13_call 65 = .ok (.if_icmp .ge 107, 3) := by decide +kernel
theorem dX13_call_68 : decode cX13_call 68 = .ok (.aload_n 0, 1) := by decide +kernel
theorem dX13_call_69 : decode cX13_call 69 = .ok (.iload 4, 2) := by decide +kernel
theorem dX13_call_71 : decode cX13_call 71 = .ok (.invokevirtual 117, 3) := by decide +kernel
theorem dX13_call_74 : decode cX13_call 74 = .ok (.ifCond .ne 98, 3) := by decide +kernel
theorem dX13_call_77 : decode cX13_call 77 = .ok (.aload_n 0, 1) := by decide +kernel
theorem dX13_call_78 : decode cX13_call 78 = .ok (.getfield 35, 3) := by decide +kernel
theorem dX13_call_81 : decode cX13_call 81 = .ok (.iload 4, 2) := by decide +kernel
theorem dX13_call_83 : decode cX13_call 83 = .ok (.aaload, 1) := by decide +kernel
theorem dX13_call_84 : decode cX13_call 84 = .ok (.iload 6, 2) := by decide +kernel
theorem dX13_call_86 : decode cX13_call 86 = .ok (.iaload, 1) := by decide +kernel
theorem dX13_call_87 : decode cX13_call 87 = .ok (.ifCond .lt 79, 3) := by decide +kernel
theorem dX13_call_90 : decode cX13_call 90 = .ok (.aload_n 0, 1) := by decide +kernel
theorem dX13_call_91 : decode cX13_call 91 = .ok (.iload 6, 2) := by decide +kernel
theorem dX13_call_93 : decode cX13_call 93 = .ok (.invokevirtual 117, 3) := by decide +kernel
theorem dX13_call_96 : decode cX13_call 96 = .ok (.ifCond .eq 70, 3) := by decide +kernel
theorem dX13_call_99 : decode cX13_call 99 = .ok (.aload_n 0, 1) := by decide +kernel
theorem dX13_call_100 : decode cX13_call 100 = .ok (.iload 6, 2) := by decide +kernel
theorem dX13_call_102 : decode cX13_call 102 = .ok (.aload_n 3, 1) := by decide +kernel
theorem dX13_call_103 : decode cX13_call 103 = .ok (.getfield 108, 3) := by decide +kernel
theorem dX13_call_106 : decode cX13_call 106 = .ok (.aload_n 3, 1) := by decide +kernel
theorem dX13_call_107 : decode cX13_call 107 = .ok (.getfield 111, 3) := by decide +kernel
theorem dX13_call_110 : decode cX13_call 110 = .ok (.invokevirtual 80, 3) := by decide +kernel
theorem dX13_call_113 : decode cX13_call 113 = .ok (.aload_n 0, 1) := by decide +kernel
theorem dX13_call_114 : decode cX13_call 114 = .ok (.getfield 30, 3) := by decide +kernel
theorem dX13_call_117 : decode cX13_call 117 = .ok (.iload 6, 2) := by decide +kernel
theorem dX13_call_119 : decode cX13_call 119 = .ok (.aaload, 1) := by decide +kernel
theorem dX13_call_120 : decode cX13_call 120 = .ok (.bipush 6, 2) := by decide +kernel
theorem dX13_call_122 : decode cX13_call 122 = .ok (.iaload, 1) := by decide +kernel
theorem dX13_call_123 : decode cX13_call 123 = .ok (.if_icmp .lt 43, 3) := by decide +kernel
theorem dX13_call_126 : decode cX13_call 126 = .ok (.iload 5, 2) := by decide +kernel
theorem dX13_call_128 : decode cX13_call 128 = .ok (.ifCond .lt 34, 3) := by decide +kernel
theorem dX13_call_131 : decode cX13_call 131 = .ok (.aload_n 0, 1) := by decide +kernel
theorem dX13_call_132 : decode cX13_call 132 = .ok (.iload 6, 2) := by decide +kernel
theorem dX13_call_134 : decode cX13_call 134 = .ok (.aload_n 3, 1) := by decide +kernel
theorem dX13_call_135 : decode cX13_call 135 = .ok (.getfield 108, 3) := by decide +kernel
theorem dX13_call_138 : decode cX13_call 138 = .ok (.aload_n 3, 1) := by decide +kernel
theorem dX13_call_139 : decode cX13_call 139 = .ok (.getfield 111, 3) := by decide +kernel
theorem dX13_call_142 : decode cX13_call 142 = .ok (.invokevirtual 80, 3) := by decide +kernel
theorem dX13_call_145 : decode cX13_call 145 = .ok (.aload_n 0, 1) := by decide +kernel
theorem dX13_call_146 : decode cX13_call 146 = .ok (.iload 5, 2) := by decide +kernel
theorem dX13_call_148 : decode cX13_call 148 = .ok (.aload_n 3, 1) := by decide +kernel
theorem dX13_call_149 : decode cX13_call 149 = .ok (.getfield 108, 3) := by decide +kernel
theorem dX13_call_152 : decode cX13_call 152 = .ok (.aload_n 3, 1) := by decide +kernel
theorem dX13_call_153 : decode cX13_call 153 = .ok (.getfield 111, 3) := by decide +kernel
theorem dX13_call_156 : decode cX13_call 156 = .ok (.invokevirtual 80, 3) := by decide +kernel
theorem dX13_call_159 : decode cX13_call 159 = .ok (.if_icmp .le 7, 3) := by decide +kernel
theorem dX13_call_162 : decode cX13_call 162 = .ok (.iload 6, 2) := by decide +kernel
theorem dX13_call_164 : decode cX13_call 164 = .ok (.istore 5, 2) := by decide +kernel
theorem dX13_call_166 : decode cX13_call 166 = .ok (.iinc 6 1, 3) := by decide +kernel
theorem dX13_call_169 : decode cX13_call 169 = .ok (.goto (-110), 3) := by decide +kernel
theorem dX13_call_172 : decode cX13_call 172 = .ok (.iload 5, 2) := by decide +kernel
theorem dX13_call_174 : decode cX13_call 174 = .ok (.ifCond .lt 34, 3) := by decide +kernel
theorem dX13_call_177 : decode cX13_call 177 = .ok (.iload 5, 2) := by decide +kernel
theorem dX13_call_179 : decode cX13_call 179 = .ok (.iload 4, 2) := by decide +kernel
theorem dX13_call_181 : decode cX13_call 181 = .ok (.if_icmp .eq 13, 3) := by decide +kernel
theorem dX13_call_184 : decode cX13_call 184 = .ok (.aload_n 0, 1) := by decide +kernel
theorem dX13_call_185 : decode cX13_call 185 = .ok (.getfield 44, 3) := by decide +kernel
theorem dX13_call_188 : decode cX13_call 188 = .ok (.iconst 5, 1) := by decide +kernel
theorem dX13_call_189 : decode cX13_call 189 = .ok (.dup2, 1) := by decide +kernel
theorem dX13_call_190 : decode cX13_call 190 = .ok (.iaload, 1) := by decide +kernel
theorem dX13_call_191 : decode cX13_call 191 = .ok (.iconst 1, 1) := by decide +kernel
theorem dX13_call_192 : decode cX13_call 192 = .ok (.iadd, 1) := by decide +kernel
theorem dX13_call_193 : decode cX13_call 193 = .ok (.iastore, 1) := by decide +kernel
theorem dX13_call_194 : decode cX13_call 194 = .ok (.aload_n 3, 1) := by decide +kernel
theorem dX13_call_195 : decode cX13_call 195 = .ok (.iload 5, 2) := by decide +kernel
theorem dX13_call_197 : decode cX13_call 197 = .ok (.invokevirtual 121, 3) := by decide +kernel
theorem dX13_call_200 : decode cX13_call 200 = .ok (.aload_n 3, 1) := by decide +kernel
theorem dX13_call_201 : decode cX13_call 201 = .ok (.iload_n 2, 1) := by decide +kernel
theorem dX13_call_202 : decode cX13_call 202 = .ok (.putfield 125, 3) := by decide +kernel
theorem dX13_call_205 : decode cX13_call 205 = .ok (.iload 5, 2) := by decide +kernel
theorem dX13_call_207 : decode cX13_call 207 = .ok (.ireturn, 1) := by decide +kernel
theorem dX13_call_208 : decode cX13_call 208 = .ok (.aload_n 0, 1) := by decide +kernel
theorem dX13_call_209 : decode cX13_call 209 = .ok (.iload 4, 2) := by decide +kernel
theorem dX13_call_211 : decode cX13_call 211 = .ok (.invokevirtual 99, 3) := by decide +kernel
theorem dX13_call_214 : decode cX13_call 214 = .ok (.aload_n 0, 1) := by decide +kernel
theorem dX13_call_215 : decode cX13_call 215 = .ok (.getfield 30, 3) := by decide +kernel
theorem dX13_call_218 : decode cX13_call 218 = .ok (.iload 4, 2) := by decide +kernel
theorem dX13_call_220 : decode cX13_call 220 = .ok (.aaload, 1) := by decide +kernel
theorem dX13_call_221 : decode cX13_call 221 = .ok (.iconst 5, 1) := by decide +kernel
theorem dX13_call_222 : decode cX13_call 222 = .ok (.iaload, 1) := by decide +kernel
theorem dX13_call_223 : decode cX13_call 223 = .ok (.if_icmp .ge 35, 3) := by decide +kernel
theorem dX13_call_226 : decode cX13_call 226 = .ok (.aload_n 3, 1) := by decide +kernel
theorem dX13_call_227 : decode cX13_call 227 = .ok (.iconst 2, 1) := by decide +kernel
theorem dX13_call_228 : decode cX13_call 228 = .ok (.putfield 88, 3) := by decide +kernel
theorem dX13_call_231 : decode cX13_call 231 = .ok (.aload_n 3, 1) := by decide +kernel
theorem dX13_call_232 : decode cX13_call 232 = .ok (.iload_n 2, 1) := by decide +kernel
theorem dX13_call_233 : decode cX13_call 233 = .ok (.putfield 125, 3) := by decide +kernel
theorem dX13_call_236 : decode cX13_call 236 = .ok (.aload_n 3, 1) := by decide +kernel
theorem dX13_call_237 : decode cX13_call 237 = .ok (.iload 4, 2) := by decide +kernel
theorem dX13_call_239 : decode cX13_call 239 = .ok (.putfield 96, 3) := by decide +kernel
theorem dX13_call_242 : decode cX13_call 242 = .ok (.aload_n 3, 1) := by decide +kernel
theorem dX13_call_243 : decode cX13_call 243 = .ok (.iconst 1, 1) := by decide +kernel
theorem dX13_call_244 : decode cX13_call 244 = .ok (.putfield 102, 3) := by decide +kernel
theorem dX13_call_247 : decode cX13_call 247 = .ok (.aload_n 3, 1) := by decide +kernel
theorem dX13_call_248 : decode cX13_call 248 = .ok (.aload_n 0, 1) := by decide +kernel
theorem dX13_call_249 : decode cX13_call 249 = .ok (.getfield 63, 3) := by decide +kernel
theorem dX13_call_252 : decode cX13_call 252 = .ok (.putfield 105, 3) := by decide +kernel
theorem dX13_call_255 : decode cX13_call 255 = .ok (.bipush (-3), 2) := by decide +kernel
theorem dX13_call_257 : decode cX13_call 257 = .ok (.ireturn, 1) := by decide +kernel
theorem dX13_call_258 : decode cX13_call 258 = .ok (.aload_n 0, 1) := by decide +kernel
theorem dX13_call_259 : decode cX13_call 259 = .ok (.getfield 44, 3) := by decide +kernel
theorem dX13_call_262 : decode cX13_call 262 = .ok (.iconst 4, 1) := by decide +kernel
theorem dX13_call_263 : decode cX13_call 263 = .ok (.dup2, 1) := by decide +kernel
theorem dX13_call_264 : decode cX13_call 264 = .ok (.iaload, 1) := by decide +kernel
theorem dX13_call_265 : decode cX13_call 265 = .ok (.iconst 1, 1) := by decide +kernel
theorem dX13_call_266 : decode cX13_call 266 = .ok (.iadd, 1) := by decide +kernel
theorem dX13_call_267 : decode cX13_call 267 = .ok (.iastore, 1) := by decide +kernel
theorem dX13_call_268 : decode cX13_call 268 = .ok (.bipush (-5), 2) := by decide +kernel
theorem dX13_call_270 : decode cX13_call 270 = .ok (.ireturn, 1) := by decide +kernel
theorem dX13_hands_0 : decode cX13_hands 0 = .ok (.aload_n 0, 1) := by decide +kernel
theorem dX13_hands_1 : decode cX13_hands 1 = .ok (.getfield 52, 3) := by decide +kernel
theorem dX13_hands_4 : decode cX13_hands 4 = .ok (.iload_n 1, 1) := by decide +kernel
theorem dX13_hands_5 : decode cX13_hands 5 = .ok (.aaload, 1) := by decide +kernel
theorem dX13_hands_6 : decode cX13_hands 6 = .ok (.astore_n 3, 1) := by decide +kernel
theorem dX13_hands_7 : decode cX13_hands 7 = .ok (.aload_n 3, 1) := by decide +kernel
theorem dX13_hands_8 : decode cX13_hands 8 = .ok (.getfield 91, 3) := by decide +kernel
theorem dX13_hands_11 : decode cX13_hands 11 = .ok (.istore 4, 2) := by decide +kernel
theorem dX13_hands_13 : decode cX13_hands 13 = .ok (.aload_n 0, 1) := by decide +kernel
theorem dX13_hands_14 : decode cX13_hands 14 = .ok (.getfield 44, 3) := by decide +kernel
theorem dX13_hands_17 : decode cX13_hands 17 = .ok (.iconst 0, 1) := by decide +kernel
theorem dX13_hands_18 : decode cX13_hands 18 = .ok (.dup2, 1) := by decide +kernel
theorem dX13_hands_19 : decode cX13_hands 19 = .ok (.iaload, 1) := by decide +kernel
theorem dX13_hands_20 : decode cX13_hands 20 = .ok (.iconst 1, 1) := by decide +kernel
theorem dX13_hands_21 : decode cX13_hands 21 = .ok (.iadd, 1) := by decide +kernel
theorem dX13_hands_22 : decode cX13_hands 22 = .ok (.iastore, 1) := by decide +kernel
theorem dX13_hands_23 : decode cX13_hands 23 = .ok (.aload_n 3, 1) := by decide +kernel
theorem dX13_hands_24 : decode cX13_hands 24 = .ok (.getfield 128, 3) := by decide +kernel
theorem dX13_hands_27 : decode cX13_hands 27 = .ok (.iload_n 2, 1) := by decide +kernel
theorem dX13_hands_28 : decode cX13_hands 28 = .ok (.iaload, 1) := by decide +kernel
theorem dX13_hands_29 : decode cX13_hands 29 = .ok (.aload_n 0, 1) := by decide +kernel
theorem dX13_hands_30 : decode cX13_hands 30 = .ok (.getfield 63, 3) := by decide +kernel
theorem dX13_hands_33 : decode cX13_hands 33 = .ok (.if_icmp .lt 13, 3) := by decide +kernel
theorem dX13_hands_36 : decode cX13_hands 36 = .ok (.aload_n 0, 1) := by decide +kernel
theorem dX13_hands_37 : decode cX13_hands 37 = .ok (.getfield 44, 3) := by decide +kernel
theorem dX13_hands_40 : decode cX13_hands 40 = .ok (.iconst 1, 1) := by decide +kernel
theorem dX13_hands_41 : decode cX13_hands 41 = .ok (.dup2, 1) := by decide +kernel
theorem dX13_hands_42 : decode cX13_hands 42 = .ok (.iaload, 1) := by decide +kernel
theorem dX13_hands_43 : decode cX13_hands 43 = .ok (.iconst 1, 1) := by decide +kernel
theorem dX13_hands_44 : decode cX13_hands 44 = .ok (.iadd, 1) := by decide +kernel
theorem dX13_hands_45 : decode cX13_hands 45 = .ok (.iastore, 1) := by decide +kernel
theorem dX13_hands_46 : decode cX13_hands 46 = .ok (.aload_n 3, 1) := by decide +kernel
theorem dX13_hands_47 : decode cX13_hands 47 = .ok (.iload_n 2, 1) := by decide +kernel
theorem dX13_hands_48 : decode cX13_hands 48 = .ok (.putfield 91, 3) := by decide +kernel
theorem dX13_hands_51 : decode cX13_hands 51 = .ok (.aload_n 3, 1) := by decide +kernel
theorem dX13_hands_52 : decode cX13_hands 52 = .ok (.iconst 0, 1) := by decide +kernel
theorem dX13_hands_53 : decode cX13_hands 53 = .ok (.putfield 131, 3) := by decide +kernel
theorem dX13_hands_56 : decode cX13_hands 56 = .ok (.aload_n 3, 1) := by decide +kernel
theorem dX13_hands_57 : decode cX13_hands 57 = .ok (.iconst (-1), 1) := by decide +kernel
theorem dX13_hands_58 : decode cX13_hands 58 = .ok (.putfield 96, 3) := by decide +kernel
theorem dX13_hands_61 : decode cX13_hands 61 = .ok (.aload_n 3, 1) := by decide +kernel
theorem dX13_hands_62 : decode cX13_hands 62 = .ok (.getfield 128, 3) := by decide +kernel
theorem dX13_hands_65 : decode cX13_hands 65 = .ok (.iload 4, 2) := by decide +kernel
theorem dX13_hands_67 : decode cX13_hands 67 = .ok (.aload_n 0, 1) := by decide +kernel
theorem dX13_hands_68 : decode cX13_hands 68 = .ok (.getfield 63, 3) := by decide +kernel
theorem dX13_hands_71 : decode cX13_hands 71 = .ok (.aload_n 0, 1) := by decide +kernel
theorem dX13_hands_72 : decode cX13_hands 72 = .ok (.getfield 16, 3) := by decide +kernel
theorem dX13_hands_75 : decode cX13_hands 75 = .ok (.iadd, 1) := by decide +kernel
theorem dX13_hands_76 : decode cX13_hands 76 = .ok (.iastore, 1) := by decide +kernel
theorem dX13_hands_77 : decode cX13_hands 77 = .ok (.aload_n 0, 1) := by decide +kernel
theorem dX13_hands_78 : decode cX13_hands 78 = .ok (.getfield 38, 3) := by decide +kernel
theorem dX13_hands_81 : decode cX13_hands 81 = .ok (.iload 4, 2) := by decide +kernel
theorem dX13_hands_83 : decode cX13_hands 83 = .ok (.aaload, 1) := by decide +kernel
theorem dX13_hands_84 : decode cX13_hands 84 = .ok (.iload_n 2, 1) := by decide +kernel
theorem dX13_hands_85 : decode cX13_hands 85 = .ok (.dup2, 1) := by decide +kernel
theorem dX13_hands_86 : decode cX13_hands 86 = .ok (.iaload, 1) := by decide +kernel
theorem dX13_hands_87 : decode cX13_hands 87 = .ok (.iconst 1, 1) := by decide +kernel
theorem dX13_hands_88 : decode cX13_hands 88 = .ok (.iadd, 1) := by decide +kernel
theorem dX13_hands_89 : decode cX13_hands 89 = .ok (.iastore, 1) := by decide +kernel
theorem dX13_hands_90 : decode cX13_hands 90 = .ok (.return_, 1) := by decide +kernel
theorem dX13_ranked_0 : decode cX13_ranked 0 = .ok (.aload_n 0, 1) := by decide +kernel
theorem dX13_ranked_1 : decode cX13_ranked 1 = .ok (.getfield 52, 3) := by decide +kernel
theorem dX13_ranked_4 : decode cX13_ranked 4 = .ok (.iload_n 1, 1) := by decide +kernel
theorem dX13_ranked_5 : decode cX13_ranked 5 = .ok (.aaload, 1) := by decide +kernel
theorem dX13_ranked_6 : decode cX13_ranked 6 = .ok (.astore_n 2, 1) := by decide +kernel
theorem dX13_ranked_7 : decode cX13_ranked 7 = .ok (.aload_n 2, 1) := by decide +kernel
theorem dX13_ranked_8 : decode cX13_ranked 8 = .ok (.getfield 91, 3) := by decide +kernel
theorem dX13_ranked_11 : decode cX13_ranked 11 = .ok (.istore_n 3, 1) := by decide +kernel
theorem dX13_ranked_12 : decode cX13_ranked 12 = .ok (.iload_n 3, 1) := by decide +kernel
theorem dX13_ranked_13 : decode cX13_ranked 13 = .ok (.ifCond .lt 21, 3) := by decide +kernel
theorem dX13_ranked_16 : decode cX13_ranked 16 = .ok (.aload_n 2, 1) := by decide +kernel
theorem dX13_ranked_17 : decode cX13_ranked 17 = .ok (.getfield 88, 3) := by decide +kernel
theorem dX13_ranked_20 : decode cX13_ranked 20 = .ok (.iconst 1, 1) := by decide +kernel
theorem dX13_ranked_21 : decode cX13_ranked 21 = .ok (.if_icmp .ne 13, 3) := by decide +kernel
theorem dX13_ranked_24 : decode cX13_ranked 24 = .ok (.aload_n 2, 1) := by decide +kernel
theorem dX13_ranked_25 : decode cX13_ranked 25 = .ok (.getfield 134, 3) := by decide +kernel
theorem dX13_ranked_28 : decode cX13_ranked 28 = .ok (.iload_n 3, 1) := by decide +kernel
theorem dX13_ranked_29 : decode cX13_ranked 29 = .ok (.aaload, 1) := by decide +kernel
theorem dX13_ranked_30 : decode cX13_ranked 30 = .ok (.arraylength, 1) := by decide +kernel
theorem dX13_ranked_31 : decode cX13_ranked 31 = .ok (.ifCond .ne 7, 3) := by decide +kernel
theorem dX13_ranked_34 : decode cX13_ranked 34 = .ok (.iconst 0, 1) := by decide +kernel
theorem dX13_ranked_35 : decode cX13_ranked 35 = .ok (.newarray .int, 2) := by decide +kernel
theorem dX13_ranked_37 : decode cX13_ranked 37 = .ok (.areturn, 1) := by decide +kernel
theorem dX13_ranked_38 : decode cX13_ranked 38 = .ok (.aload_n 2, 1) := by decide +kernel
theorem dX13_ranked_39 : decode cX13_ranked 39 = .ok (.iload_n 3, 1) := by decide +kernel
theorem dX13_ranked_40 : decode cX13_ranked 40 = .ok (.invokevirtual 137, 3) := by decide +kernel
theorem dX13_ranked_43 : decode cX13_ranked 43 = .ok (.aload_n 0, 1) := by decide +kernel
theorem dX13_ranked_44 : decode cX13_ranked 44 = .ok (.getfield 30, 3) := by decide +kernel
theorem dX13_ranked_47 : decode cX13_ranked 47 = .ok (.iload_n 3, 1) := by decide +kernel
theorem dX13_ranked_48 : decode cX13_ranked 48 = .ok (.aaload, 1) := by decide +kernel
theorem dX13_ranked_49 : decode cX13_ranked 49 = .ok (.bipush 7, 2) := by decide +kernel
theorem dX13_ranked_51 : decode cX13_ranked 51 = .ok (.iaload, 1) := by decide +kernel
theorem dX13_ranked_52 : decode cX13_ranked 52 = .ok (.if_icmp .ge 7, 3) := by decide +kernel
theorem dX13_ranked_55 : decode cX13_ranked 55 = .ok (.iconst 1, 1) := by decide +kernel
theorem dX13_ranked_56 : decode cX13_ranked 56 = .ok (.goto 4, 3) := by decide +kernel
theorem dX13_ranked_59 : decode cX13_ranked 59 = .ok (.iconst 0, 1) := by decide +kernel
theorem dX13_ranked_60 : decode cX13_ranked 60 = .ok (.istore 4, 2) := by decide +kernel
theorem dX13_ranked_62 : decode cX13_ranked 62 = .ok (.aload_n 0, 1) := by decide +kernel
theorem dX13_ranked_63 : decode cX13_ranked 63 = .ok (.getfield 57, 3) := by decide +kernel
theorem dX13_ranked_66 : decode cX13_ranked 66 = .ok (.newarray .int, 2) := by decide +kernel
theorem dX13_ranked_68 : decode cX13_ranked 68 = .ok (.astore 5, 2) := by decide +kernel
theorem dX13_ranked_70 : decode cX13_ranked 70 = .ok (.iconst 0, 1) := by decide +kernel
theorem dX13_ranked_71 : decode cX13_ranked 71 = .ok (.istore 6, 2) := by decide +kernel
theorem dX13_ranked_73 : decode cX13_ranked 73 = .ok (.iconst 0, 1) := by decide +kernel
theorem dX13_ranked_74 : decode cX13_ranked 74 = .ok (.istore 7, 2) := by decide +kernel
theorem dX13_ranked_76 : decode cX13_ranked 76 = .ok (.iload 7, 2) := by decide +kernel
theorem dX13_ranked_78 : decode cX13_ranked 78 = .ok (.aload_n 0, 1) := by decide +kernel
theorem dX13_ranked_79 : decode cX13_ranked 79 = .ok (.getfield 57, 3) := by decide +kernel
theorem dX13_ranked_82 : decode cX13_ranked 82 = .ok (.if_icmp .ge 134, 3) := by decide +kernel
theorem dX13_ranked_85 : decode cX13_ranked 85 = .ok (.aload 5, 2) := by decide +kernel
theorem dX13_ranked_87 : decode cX13_ranked 87 = .ok (.iload 7, 2) := by decide +kernel
theorem dX13_ranked_89 : decode cX13_ranked 89 = .ok (.iconst 0, 1) := by decide +kernel
theorem dX13_ranked_90 : decode cX13_ranked 90 = .ok (.iastore, 1) := by decide +kernel
theorem dX13_ranked_91 : decode cX13_ranked 91 = .ok (.aload_n 0, 1) := by decide +kernel
theorem dX13_ranked_92 : decode cX13_ranked 92 = .ok (.getfield 35, 3) := by decide +kernel
theorem dX13_ranked_95 : decode cX13_ranked 95 = .ok (.iload_n 3, 1) := by decide +kernel
theorem dX13_ranked_96 : decode cX13_ranked 96 = .ok (.aaload, 1) := by decide +kernel
theorem dX13_ranked_97 : decode cX13_ranked 97 = .ok (.iload 7, 2) := by decide +kernel
theorem dX13_ranked_99 : decode cX13_ranked 99 = .ok (.iaload, 1) := by decide +kernel
theorem dX13_ranked_100 : decode cX13_ranked 100 = .ok (.ifCond .lt 110, 3) := by decide +kernel
theorem dX13_ranked_103 : decode cX13_ranked 103 = .ok (.aload_n 2, 1) := by decide +kernel
theorem dX13_ranked_104 : decode cX13_ranked 104 = .ok (.getfield 134, 3) := by decide +kernel
theorem dX13_ranked_107 : decode cX13_ranked 107 = .ok (.iload 7, 2) := by decide +kernel
theorem dX13_ranked_109 : decode cX13_ranked 109 = .ok (.aaload, 1) := by decide +kernel
theorem dX13_ranked_110 : decode cX13_ranked 110 = .ok (.arraylength, 1) := by decide +kernel
theorem dX13_ranked_111 : decode cX13_ranked 111 = .ok (.aload_n 0, 1) := by decide +kernel
theorem dX13_ranked_112 : decode cX13_ranked 112 = .ok (.getfield 13, 3) := by decide +kernel
theorem dX13_ranked_115 : decode cX13_ranked 115 = .ok (.if_icmp .lt 95, 3) := by decide +kernel
theorem dX13_ranked_118 : decode cX13_ranked 118 = .ok (.aload_n 2, 1) := by decide +kernel
theorem dX13_ranked_119 : decode cX13_ranked 119 = .ok (.iload 7, 2) := by decide +kernel
theorem dX13_ranked_121 : decode cX13_ranked 121 = .ok (.invokevirtual 137, 3) := by decide +kernel
theorem dX13_ranked_124 : decode cX13_ranked 124 = .ok (.aload_n 0, 1) := by decide +kernel
theorem dX13_ranked_125 : decode cX13_ranked 125 = .ok (.getfield 30, 3) := by decide +kernel
theorem dX13_ranked_128 : decode cX13_ranked 128 = .ok (.iload 7, 2) := by decide +kernel
theorem dX13_ranked_130 : decode cX13_ranked 130 = .ok (.aaload, 1) := by decide +kernel
theorem dX13_ranked_131 : decode cX13_ranked 131 = .ok (.bipush 6, 2) := by decide +kernel
theorem dX13_ranked_133 : decode cX13_ranked 133 = .ok (.iaload, 1) := by decide +kernel
theorem dX13_ranked_134 : decode cX13_ranked 134 = .ok (.if_icmp .ge 6, 3) := by decide +kernel
theorem dX13_ranked_137 : decode cX13_ranked 137 = .ok (.goto 73, 3) := by decide +kernel
theorem dX13_ranked_140 : decode cX13_ranked 140 = .ok (.aload_n 2, 1) := by decide +kernel
theorem dX13_ranked_141 : decode cX13_ranked 141 = .ok (.iload 7, 2) := by decide +kernel
theorem dX13_ranked_143 : decode cX13_ranked 143 = .ok (.invokevirtual 137, 3) := by decide +kernel
theorem dX13_ranked_146 : decode cX13_ranked 146 = .ok (.aload_n 2, 1) := by decide +kernel
theorem dX13_ranked_147 : decode cX13_ranked 147 = .ok (.iload_n 3, 1) := by decide +kernel
theorem dX13_ranked_148 : decode cX13_ranked 148 = .ok (.invokevirtual 137, 3) := by decide +kernel
theorem dX13_ranked_151 : decode cX13_ranked 151 = .ok (.isub, 1) := by decide +kernel
theorem dX13_ranked_152 : decode cX13_ranked 152 = .ok (.istore 8, 2) := by decide +kernel
theorem dX13_ranked_154 : decode cX13_ranked 154 = .ok (.iload 4, 2) := by decide +kernel
theorem dX13_ranked_156 : decode cX13_ranked 156 = .ok (.ifCond .ne 17, 3) := by decide +kernel
theorem dX13_ranked_159 : decode cX13_ranked 159 = .ok (.iload 8, 2) := by decide +kernel
theorem dX13_ranked_161 : decode cX13_ranked 161 = .ok (.aload_n 0, 1) := by decide +kernel
theorem dX13_ranked_162 : decode cX13_ranked 162 = .ok (.getfield 35, 3) := by decide +kernel
theorem dX13_ranked_165 : decode cX13_ranked 165 = .ok (.iload_n 3, 1) := by decide +kernel
theorem dX13_ranked_166 : decode cX13_ranked 166 = .ok (.aaload, 1) := by decide +kernel
theorem dX13_ranked_167 : decode cX13_ranked 167 = .ok (.iload 7, 2) := by decide +kernel
theorem dX13_ranked_169 : decode cX13_ranked 169 = .ok (.iaload, 1) := by decide +kernel
theorem dX13_ranked_170 : decode cX13_ranked 170 = .ok (.isub, 1) := by decide +kernel
theorem dX13_ranked_171 : decode cX13_ranked 171 = .ok (.istore 8, 2) := by decide +kernel
theorem dX13_ranked_173 : decode cX13_ranked 173 = .ok (.iload 8, 2) := by decide +kernel
theorem dX13_ranked_175 : decode cX13_ranked 175 = .ok (.ifCond .le 35, 3) := by decide +kernel
theorem dX13_ranked_178 : decode cX13_ranked 178 = .ok (.iload 4, 2) := by decide +kernel
theorem dX13_ranked_180 : decode cX13_ranked 180 = .ok (.ifCond .ne 20, 3) := by decide +kernel
theorem dX13_ranked_183 : decode cX13_ranked 183 = .ok (.aload_n 2, 1) := by decide +kernel
theorem dX13_ranked_184 : decode cX13_ranked 184 = .ok (.getfield 128, 3) := by decide +kernel
theorem dX13_ranked_187 : decode cX13_ranked 187 = .ok (.iload 7, 2) := by decide +kernel
theorem dX13_ranked_189 : decode cX13_ranked 189 = .ok (.iaload, 1) := by decide +kernel
theorem dX13_ranked_190 : decode cX13_ranked 190 = .ok (.aload_n 0, 1) := by decide +kernel
theorem dX13_ranked_191 : decode cX13_ranked 191 = .ok (.getfield 63, 3) := by decide +kernel
theorem dX13_ranked_194 : decode cX13_ranked 194 = .ok (.if_icmp .lt 6, 3) := by decide +kernel
theorem dX13_ranked_197 : decode cX13_ranked 197 = .ok (.goto 13, 3) := by decide +kernel
theorem dX13_ranked_200 : decode cX13_ranked 200 = .ok (.aload 5, 2) := by decide +kernel
theorem dX13_ranked_202 : decode cX13_ranked 202 = .ok (.iload 7, 2) := by decide +kernel
theorem dX13_ranked_204 : decode cX13_ranked 204 = .ok (.iload 8, 2) := by decide +kernel
theorem dX13_ranked_206 : decode cX13_ranked 206 = .ok (.iastore, 1) := by decide +kernel
theorem dX13_ranked_207 : decode cX13_ranked 207 = .ok (.iinc 6 1, 3) := by decide +kernel
theorem dX13_ranked_210 : decode cX13_ranked 210 = .ok (.iinc 7 1, 3) := by decide +kernel
theorem dX13_ranked_213 : decode cX13_ranked 213 = .ok (.goto (-137), 3) := by decide +kernel
theorem dX13_ranked_216 : decode cX13_ranked 216 = .ok (.iload 6, 2) := by decide +kernel
theorem dX13_ranked_218 : decode cX13_ranked 218 = .ok (.newarray .int, 2) := by decide +kernel
theorem dX13_ranked_220 : decode cX13_ranked 220 = .ok (.astore 7, 2) := by decide +kernel
theorem dX13_ranked_222 : decode cX13_ranked 222 = .ok (.iconst 0, 1) := by decide +kernel
theorem dX13_ranked_223 : decode cX13_ranked 223 = .ok (.istore 8, 2) := by decide +kernel
theorem dX13_ranked_225 : decode cX13_ranked 225 = .ok (.iload 8, 2) := by decide +kernel
theorem dX13_ranked_227 : decode cX13_ranked 227 = .ok (.iload 6, 2) := by decide +kernel
theorem dX13_ranked_229 : decode cX13_ranked 229 = .ok (.if_icmp .ge 60, 3) := by decide +kernel
theorem dX13_ranked_232 : decode cX13_ranked 232 = .ok (.iconst 0, 1) := by decide +kernel
theorem dX13_ranked_233 : decode cX13_ranked 233 = .ok (.istore 9, 2) := by decide +kernel
theorem dX13_ranked_235 : decode cX13_ranked 235 = .ok (.iconst 1, 1) := by decide +kernel
theorem dX13_ranked_236 : decode cX13_ranked 236 = .ok (.istore 10, 2) := by decide +kernel
theorem dX13_ranked_238 : decode cX13_ranked 238 = .ok (.iload 10, 2) := by decide +kernel
theorem dX13_ranked_240 : decode cX13_ranked 240 = .ok (.aload_n 0, 1) := by decide +kernel
theorem dX13_ranked_241 : decode cX13_ranked 241 = .ok (.getfield 57, 3) := by decide +kernel
theorem dX13_ranked_244 : decode cX13_ranked 244 = .ok (.if_icmp .ge 26, 3) := by decide +kernel
theorem dX13_ranked_247 : decode cX13_ranked 247 = .ok (.aload 5, 2) := by decide +kernel
theorem dX13_ranked_249 : decode cX13_ranked 249 = .ok (.iload 10, 2) := by decide +kernel
theorem dX13_ranked_251 : decode cX13_ranked 251 = .ok (.iaload, 1) := by decide +kernel
theorem dX13_ranked_252 : decode cX13_ranked 252 = .ok (.aload 5, 2) := by decide +kernel
theorem dX13_ranked_254 : decode cX13_ranked 254 = .ok (.iload 9, 2) := by decide +kernel
theorem dX13_ranked_256 : decode cX13_ranked 256 = .ok (.iaload, 1) := by decide +kernel
theorem dX13_ranked_257 : decode cX13_ranked 257 = .ok (.if_icmp .le 7, 3) := by decide +kernel
theorem dX13_ranked_260 : decode cX13_ranked 260 = .ok (.iload 10, 2) := by decide +kernel
theorem dX13_ranked_262 : decode cX13_ranked 262 = .ok (.istore 9, 2) := by decide +kernel
theorem dX13_ranked_264 : decode cX13_ranked 264 = .ok (.iinc 10 1, 3) := by decide +kernel
theorem dX13_ranked_267 : decode cX13_ranked 267 = .ok (.goto (-29), 3) := by decide +kernel
theorem dX13_ranked_270 : decode cX13_ranked 270 = .ok (.aload 7, 2) := by decide +kernel
theorem dX13_ranked_272 : decode cX13_ranked 272 = .ok (.iload 8, 2) := by decide +kernel
theorem dX13_ranked_274 : decode cX13_ranked 274 = .ok (.iload 9, 2) := by decide +kernel
theorem dX13_ranked_276 : decode cX13_ranked 276 = .ok (.iastore, 1) := by decide +kernel
theorem dX13_ranked_277 : decode cX13_ranked 277 = .ok (.aload 5, 2) := by decide +kernel
theorem dX13_ranked_279 : decode cX13_ranked 279 = .ok (.iload 9, 2) := by decide +kernel
theorem dX13_ranked_281 : decode cX13_ranked 281 = .ok (.iconst 0, 1) := by decide +kernel
theorem dX13_ranked_282 : decode cX13_ranked 282 = .ok (.iastore, 1) := by decide +kernel
theorem dX13_ranked_283 : decode cX13_ranked 283 = .ok (.iinc 8 1, 3) := by decide +kernel
theorem dX13_ranked_286 : decode cX13_ranked 286 = .ok (.goto (-61), 3) := by decide +kernel
theorem dX13_ranked_289 : decode cX13_ranked 289 = .ok (.aload 7, 2) := by decide +kernel
theorem dX13_ranked_291 : decode cX13_ranked 291 = .ok (.areturn, 1) := by decide +kernel
theorem dX13_considers_0 : decode cX13_considers 0 = .ok (.aload_n 0, 1) := by decide +kernel
theorem dX13_considers_1 : decode cX13_considers 1 = .ok (.getfield 52, 3) := by decide +kernel
theorem dX13_considers_4 : decode cX13_considers 4 = .ok (.iload_n 1, 1) := by decide +kernel
theorem dX13_considers_5 : decode cX13_considers 5 = .ok (.aaload, 1) := by decide +kernel
theorem dX13_considers_6 : decode cX13_considers 6 = .ok (.astore_n 2, 1) := by decide +kernel
theorem dX13_considers_7 : decode cX13_considers 7 = .ok (.aload_n 2, 1) := by decide +kernel
theorem dX13_considers_8 : decode cX13_considers 8 = .ok (.getfield 91, 3) := by decide +kernel
theorem dX13_considers_11 : decode cX13_considers 11 = .ok (.istore_n 3, 1) := by decide +kernel
theorem dX13_considers_12 : decode cX13_considers 12 = .ok (.aload_n 0, 1) := by decide +kernel
theorem dX13_considers_13 : decode cX13_considers 13 = .ok (.iload_n 1, 1) := by decide +kernel
theorem dX13_considers_14 : decode cX13_considers 14 = .ok (.invokevirtual 140, 3) := by decide +kernel
theorem dX13_considers_17 : decode cX13_considers 17 = .ok (.astore 4, 2) := by decide +kernel
theorem dX13_considers_19 : decode cX13_considers 19 = .ok (.aload 4, 2) := by decide +kernel
theorem dX13_considers_21 : decode cX13_considers 21 = .ok (.astore 5, 2) := by decide +kernel
theorem dX13_considers_23 : decode cX13_considers 23 = .ok (.aload 5, 2) := by decide +kernel
theorem dX13_considers_25 : decode cX13_considers 25 = .ok (.arraylength, 1) := by decide +kernel
theorem dX13_considers_26 : decode cX13_considers 26 = .ok (.istore 6, 2) := by decide +kernel
theorem dX13_considers_28 : decode cX13_considers 28 = .ok (.iconst 0, 1) := by decide +kernel
theorem dX13_considers_29 : decode cX13_considers 29 = .ok (.istore 7, 2) := by decide +kernel
theorem dX13_considers_31 : decode cX13_considers 31 = .ok (.iload 7, 2) := by decide +kernel
theorem dX13_considers_33 : decode cX13_considers 33 = .ok (.iload 6, 2) := by decide +kernel
theorem dX13_considers_35 : decode cX13_considers 35 = .ok (.if_icmp .ge 46, 3) := by decide +kernel
theorem dX13_considers_38 : decode cX13_considers 38 = .ok (.aload 5, 2) := by decide +kernel
theorem dX13_considers_40 : decode cX13_considers 40 = .ok (.iload 7, 2) := by decide +kernel
theorem dX13_considers_42 : decode cX13_considers 42 = .ok (.iaload, 1) := by decide +kernel
theorem dX13_considers_43 : decode cX13_considers 43 = .ok (.istore 8, 2) := by decide +kernel
theorem dX13_considers_45 : decode cX13_considers 45 = .ok (.aload_n 0, 1) := by decide +kernel
theorem dX13_considers_46 : decode cX13_considers 46 = .ok (.iload 8, 2) := by decide +kernel
theorem dX13_considers_48 : decode cX13_considers 48 = .ok (.invokevirtual 117, 3) := by decide +kernel
theorem dX13_considers_51 : decode cX13_considers 51 = .ok (.ifCond .eq 11, 3) := by decide +kernel
theorem dX13_considers_54 : decode cX13_considers 54 = .ok (.aload_n 0, 1) := by decide +kernel
theorem dX13_considers_55 : decode cX13_considers 55 = .ok (.iload_n 1, 1) := by decide +kernel
theorem dX13_considers_56 : decode cX13_considers 56 = .ok (.iload 8, 2) := by decide +kernel
theorem dX13_considers_58 : decode cX13_considers 58 = .ok (.invokevirtual 144, 3) := by decide +kernel
theorem dX13_considers_61 : decode cX13_considers 61 = .ok (.return_, 1) := by decide +kernel
theorem dX13_considers_62 : decode cX13_considers 62 = .ok (.aload_n 0, 1) := by decide +kernel
theorem dX13_considers_63 : decode cX13_considers 63 = .ok (.getfield 41, 3) := by decide +kernel
theorem dX13_considers_66 : decode cX13_considers 66 = .ok (.iload_n 3, 1) := by decide +kernel
theorem dX13_considers_67 : decode cX13_considers 67 = .ok (.aaload, 1) := by decide +kernel
theorem dX13_considers_68 : decode cX13_considers 68 = .ok (.iload 8, 2) := by decide +kernel
theorem dX13_considers_70 : decode cX13_considers 70 = .ok (.dup2, 1) := by decide +kernel
theorem dX13_considers_71 : decode cX13_considers 71 = .ok (.iaload, 1) := by decide +kernel
theorem dX13_considers_72 : decode cX13_considers 72 = .ok (.iconst 1, 1) := by decide +kernel
theorem dX13_considers_73 : decode cX13_considers 73 = .ok (.iadd, 1) := by decide +kernel
theorem dX13_considers_74 : decode cX13_considers 74 = .ok (.iastore, 1) := by decide +kernel
theorem dX13_considers_75 : decode cX13_considers 75 = .ok (.iinc 7 1, 3) := by decide +kernel
theorem dX13_considers_78 : decode cX13_considers 78 = .ok (.goto (-47), 3) := by decide +kernel
theorem dX13_considers_81 : decode cX13_considers 81 = .ok (.aload 4, 2) := by decide +kernel
theorem dX13_considers_83 : decode cX13_considers 83 = .ok (.arraylength, 1) := by decide +kernel
theorem dX13_considers_84 : decode cX13_considers 84 = .ok (.ifCond .eq 20, 3) := by decide +kernel
theorem dX13_considers_87 : decode cX13_considers 87 = .ok (.aload_n 2, 1) := by decide +kernel
theorem dX13_considers_88 : decode cX13_considers 88 = .ok (.iload_n 3, 1) := by decide +kernel
theorem dX13_considers_89 : decode cX13_considers 89 = .ok (.invokevirtual 137, 3) := by decide +kernel
theorem dX13_considers_92 : decode cX13_considers 92 = .ok (.aload_n 0, 1) := by decide +kernel
theorem dX13_considers_93 : decode cX13_considers 93 = .ok (.getfield 30, 3) := by decide +kernel
theorem dX13_considers_96 : decode cX13_considers 96 = .ok (.iload_n 3, 1) := by decide +kernel
theorem dX13_considers_97 : decode cX13_considers 97 = .ok (.aaload, 1) := by decide +kernel
theorem dX13_considers_98 : decode cX13_considers 98 = .ok (.bipush 7, 2) := by decide +kernel
theorem dX13_considers_100 : decode cX13_considers 100 = .ok (.iaload, 1) := by decide +kernel
theorem dX13_considers_101 : decode cX13_considers 101 = .ok (.if_icmp .lt 4, 3) := by decide +kernel
theorem dX13_considers_104 : decode cX13_considers 104 = .ok (.return_, 1) := by decide +kernel
theorem dX13_considers_105 : decode cX13_considers 105 = .ok (.aload 4, 2) := by decide +kernel
theorem dX13_considers_107 : decode cX13_considers 107 = .ok (.astore 5, 2) := by decide +kernel
theorem dX13_considers_109 : decode cX13_considers 109 = .ok (.aload 5, 2) := by decide +kernel
theorem dX13_considers_111 : decode cX13_considers 111 = .ok (.arraylength, 1) := by decide +kernel
theorem dX13_considers_112 : decode cX13_considers 112 = .ok (.istore 6, 2) := by decide +kernel
theorem dX13_considers_114 : decode cX13_considers 114 = .ok (.iconst 0, 1) := by decide +kernel
theorem dX13_considers_115 : decode cX13_considers 115 = .ok (.istore 7, 2) := by decide +kernel
theorem dX13_considers_117 : decode cX13_considers 117 = .ok (.iload 7, 2) := by decide +kernel
theorem dX13_considers_119 : decode cX13_considers 119 = .ok (.iload 6, 2) := by decide +kernel
theorem dX13_considers_121 : decode cX13_considers 121 = .ok (.if_icmp .ge 54, 3) := by decide +kernel
theorem dX13_considers_124 : decode cX13_considers 124 = .ok (.aload 5, 2) := by decide +kernel
theorem dX13_considers_126 : decode cX13_considers 126 = .ok (.iload 7, 2) := by decide +kernel
theorem dX13_considers_128 : decode cX13_considers 128 = .ok (.iaload, 1) := by decide +kernel
theorem dX13_considers_129 : decode cX13_considers 129 = .ok (.istore 8, 2) := by decide +kernel
theorem dX13_considers_131 : decode cX13_considers 131 = .ok (.aload_n 0, 1) := by decide +kernel
theorem dX13_considers_132 : decode cX13_considers 132 = .ok (.iload 8, 2) := by decide +kernel
theorem dX13_considers_134 : decode cX13_considers 134 = .ok (.invokevirtual 99, 3) := by decide +kernel
theorem dX13_considers_137 : decode cX13_considers 137 = .ok (.aload_n 0, 1) := by decide +kernel
theorem dX13_considers_138 : decode cX13_considers 138 = .ok (.getfield 30, 3) := by decide +kernel
theorem dX13_considers_141 : decode cX13_considers 141 = .ok (.iload 8, 2) := by decide +kernel
theorem dX13_considers_143 : decode cX13_considers 143 = .ok (.aaload, 1) := by decide +kernel
theorem dX13_considers_144 : decode cX13_considers 144 = .ok (.iconst 5, 1) := by decide +kernel
theorem dX13_considers_145 : decode cX13_considers 145 = .ok (.iaload, 1) := by decide +kernel
theorem dX13_considers_146 : decode cX13_considers 146 = .ok (.if_icmp .ge 23, 3) := by decide +kernel
theorem dX13_considers_149 : decode cX13_considers 149 = .ok (.aload_n 2, 1) := by decide +kernel
theorem dX13_considers_150 : decode cX13_considers 150 = .ok (.iload 8, 2) := by decide +kernel
theorem dX13_considers_152 : decode cX13_considers 152 = .ok (.putfield 96, 3) := by decide +kernel
theorem dX13_considers_155 : decode cX13_considers 155 = .ok (.aload_n 2, 1) := by decide +kernel
theorem dX13_considers_156 : decode cX13_considers 156 = .ok (.iconst 0, 1) := by decide +kernel
theorem dX13_considers_157 : decode cX13_considers 157 = .ok (.putfield 102, 3) := by decide +kernel
theorem dX13_considers_160 : decode cX13_considers 160 = .ok (.aload_n 2, 1) := by decide +kernel
theorem dX13_considers_161 : decode cX13_considers 161 = .ok (.aload_n 0, 1) := by decide +kernel
theorem dX13_considers_162 : decode cX13_considers 162 = .ok (.getfield 63, 3) := by decide +kernel
theorem dX13_considers_165 : decode cX13_considers 165 = .ok (.putfield 105, 3) := by decide +kernel
theorem dX13_considers_168 : decode cX13_considers 168 = .ok (.return_, 1) := by decide +kernel
theorem dX13_considers_169 : decode cX13_considers 169 = .ok (.iinc 7 1, 3) := by decide +kernel
theorem dX13_considers_172 : decode cX13_considers 172 = .ok (.goto (-55), 3) := by decide +kernel
theorem dX13_considers_175 : decode cX13_considers 175 = .ok (.return_, 1) := by decide +kernel
theorem dX13_step_0 : decode cX13_step 0 = .ok (.iconst 0, 1) := by decide +kernel
theorem dX13_step_1 : decode cX13_step 1 = .ok (.istore_n 1, 1) := by decide +kernel
theorem dX13_step_2 : decode cX13_step 2 = .ok (.iload_n 1, 1) := by decide +kernel
theorem dX13_step_3 : decode cX13_step 3 = .ok (.aload_n 0, 1) := by decide +kernel
theorem dX13_step_4 : decode cX13_step 4 = .ok (.getfield 60, 3) := by decide +kernel
theorem dX13_step_7 : decode cX13_step 7 = .ok (.if_icmp .ge 100, 3) := by decide +kernel
theorem dX13_step_10 : decode cX13_step 10 = .ok (.aload_n 0, 1) := by decide +kernel
theorem dX13_step_11 : decode cX13_step 11 = .ok (.getfield 52, 3) := by decide +kernel
theorem dX13_step_14 : decode cX13_step 14 = .ok (.iload_n 1, 1) := by decide +kernel
theorem dX13_step_15 : decode cX13_step 15 = .ok (.aaload, 1) := by decide +kernel
theorem dX13_step_16 : decode cX13_step 16 = .ok (.astore_n 2, 1) := by decide +kernel
theorem dX13_step_17 : decode cX13_step 17 = .ok (.aload_n 2, 1) := by decide +kernel
theorem dX13_step_18 : decode cX13_step 18 = .ok (.dup, 1) := by decide +kernel
theorem dX13_step_19 : decode cX13_step 19 = .ok (.getfield 108, 3) := by decide +kernel
theorem dX13_step_22 : decode cX13_step 22 = .ok (.aload_n 2, 1) := by decide +kernel
theorem dX13_step_23 : decode cX13_step 23 = .ok (.getfield 148, 3) := by decide +kernel
theorem dX13_step_26 : decode cX13_step 26 = .ok (.iadd, 1) := by decide +kernel
theorem dX13_step_27 : decode cX13_step 27 = .ok (.putfield 108, 3) := by decide +kernel
theorem dX13_step_30 : decode cX13_step 30 = .ok (.aload_n 2, 1) := by decide +kernel
theorem dX13_step_31 : decode cX13_step 31 = .ok (.dup, 1) := by decide +kernel
theorem dX13_step_32 : decode cX13_step 32 = .ok (.getfield 111, 3) := by decide +kernel
theorem dX13_step_35 : decode cX13_step 35 = .ok (.aload_n 2, 1) := by decide +kernel
theorem dX13_step_36 : decode cX13_step 36 = .ok (.getfield 151, 3) := by decide +kernel
theorem dX13_step_39 : decode cX13_step 39 = .ok (.iadd, 1) := by decide +kernel
theorem dX13_step_40 : decode cX13_step 40 = .ok (.putfield 111, 3) := by decide +kernel
theorem dX13_step_43 : decode cX13_step 43 = .ok (.aload_n 2, 1) := by decide +kernel
theorem dX13_step_44 : decode cX13_step 44 = .ok (.getfield 108, 3) := by decide +kernel
theorem dX13_step_47 : decode cX13_step 47 = .ok (.ifCond .ge 8, 3) := by decide +kernel
theorem dX13_step_50 : decode cX13_step 50 = .ok (.aload_n 2, 1) := by decide +kernel
theorem dX13_step_51 : decode cX13_step 51 = .ok (.iconst 0, 1) := by decide +kernel
theorem dX13_step_52 : decode cX13_step 52 = .ok (.putfield 108, 3) := by decide +kernel
theorem dX13_step_55 : decode cX13_step 55 = .ok (.aload_n 2, 1) := by decide +kernel
theorem dX13_step_56 : decode cX13_step 56 = .ok (.getfield 108, 3) := by decide +kernel
theorem dX13_step_59 : decode cX13_step 59 = .ok (.sipush 999, 3) := by decide +kernel
theorem dX13_step_62 : decode cX13_step 62 = .ok (.if_icmp .le 10, 3) := by decide +kernel
theorem dX13_step_65 : decode cX13_step 65 = .ok (.aload_n 2, 1) := by decide +kernel
theorem dX13_step_66 : decode cX13_step 66 = .ok (.sipush 999, 3) := by decide +kernel
theorem dX13_step_69 : decode cX13_step 69 = .ok (.putfield 108, 3) := by decide +kernel
theorem dX13_step_72 : decode cX13_step 72 = .ok (.aload_n 2, 1) := by decide +kernel
theorem dX13_step_73 : decode cX13_step 73 = .ok (.getfield 111, 3) := by decide +kernel
theorem dX13_step_76 : decode cX13_step 76 = .ok (.ifCond .ge 8, 3) := by decide +kernel
theorem dX13_step_79 : decode cX13_step 79 = .ok (.aload_n 2, 1) := by decide +kernel
theorem dX13_step_80 : decode cX13_step 80 = .ok (.iconst 0, 1) := by decide +kernel
theorem dX13_step_81 : decode cX13_step 81 = .ok (.putfield 111, 3) := by decide +kernel
theorem dX13_step_84 : decode cX13_step 84 = .ok (.aload_n 2, 1) := by decide +kernel
theorem dX13_step_85 : decode cX13_step 85 = .ok (.getfield 111, 3) := by decide +kernel
theorem dX13_step_88 : decode cX13_step 88 = .ok (.sipush 999, 3) := by decide +kernel
theorem dX13_step_91 : decode cX13_step 91 = .ok (.if_icmp .le 10, 3) := by decide +kernel
theorem dX13_step_94 : decode cX13_step 94 = .ok (.aload_n 2, 1) := by decide +kernel
theorem dX13_step_95 : decode cX13_step 95 = .ok (.sipush 999, 3) := by decide +kernel
theorem dX13_step_98 : decode cX13_step 98 = .ok (.putfield 111, 3) := by decide +kernel
theorem dX13_step_101 : decode cX13_step 101 = .ok (.iinc 1 1, 3) := by decide +kernel
theorem dX13_step_104 : decode cX13_step 104 = .ok (.goto (-102), 3) := by decide +kernel
theorem dX13_step_107 : decode cX13_step 107 = .ok (.iconst 0, 1) := by decide +kernel
theorem dX13_step_108 : decode cX13_step 108 = .ok (.istore_n 1, 1) := by decide +kernel
theorem dX13_step_109 : decode cX13_step 109 = .ok (.iload_n 1, 1) := by decide +kernel
theorem dX13_step_110 : decode cX13_step 110 = .ok (.aload_n 0, 1) := by decide +kernel
theorem dX13_step_111 : decode cX13_step 111 = .ok (.getfield 60, 3) := by decide +kernel
theorem dX13_step_114 : decode cX13_step 114 = .ok (.if_icmp .ge 174, 3) := by decide +kernel
theorem dX13_step_117 : decode cX13_step 117 = .ok (.aload_n 0, 1) := by decide +kernel
theorem dX13_step_118 : decode cX13_step 118 = .ok (.getfield 52, 3) := by decide +kernel
theorem dX13_step_121 : decode cX13_step 121 = .ok (.iload_n 1, 1) := by decide +kernel
theorem dX13_step_122 : decode cX13_step 122 = .ok (.aaload, 1) := by decide +kernel
theorem dX13_step_123 : decode cX13_step 123 = .ok (.astore_n 2, 1) := by decide +kernel
theorem dX13_step_124 : decode cX13_step 124 = .ok (.aload_n 2, 1) := by decide +kernel
theorem dX13_step_125 : decode cX13_step 125 = .ok (.getfield 88, 3) := by decide +kernel
theorem dX13_step_128 : decode cX13_step 128 = .ok (.iconst 1, 1) := by decide +kernel
theorem dX13_step_129 : decode cX13_step 129 = .ok (.if_icmp .eq 6, 3) := by decide +kernel
theorem dX13_step_132 : decode cX13_step 132 = .ok (.goto 150, 3) := by decide +kernel
theorem dX13_step_135 : decode cX13_step 135 = .ok (.iconst 0, 1) := by decide +kernel
theorem dX13_step_136 : decode cX13_step 136 = .ok (.istore_n 3, 1) := by decide +kernel
theorem dX13_step_137 : decode cX13_step 137 = .ok (.iload_n 3, 1) := by decide +kernel
theorem dX13_step_138 : decode cX13_step 138 = .ok (.aload_n 0, 1) := by decide +kernel
theorem dX13_step_139 : decode cX13_step 139 = .ok (.getfield 57, 3) := by decide +kernel
theorem dX13_step_142 : decode cX13_step 142 = .ok (.if_icmp .ge 140, 3) := by decide +kernel
theorem dX13_step_145 : decode cX13_step 145 = .ok (.iload_n 3, 1) := by decide +kernel
theorem dX13_step_146 : decode cX13_step 146 = .ok (.aload_n 2, 1) := by decide +kernel
theorem dX13_step_147 : decode cX13_step 147 = .ok (.getfield 91, 3) := by decide +kernel
theorem dX13_step_150 : decode cX13_step 150 = .ok (.if_icmp .eq 29, 3) := by decide +kernel
theorem dX13_step_153 : decode cX13_step 153 = .ok (.aload_n 0, 1) := by decide +kernel
theorem dX13_step_154 : decode cX13_step 154 = .ok (.getfield 35, 3) := by decide +kernel
theorem dX13_step_157 : decode cX13_step 157 = .ok (.aload_n 2, 1) := by decide +kernel
theorem dX13_step_158 : decode cX13_step 158 = .ok (.getfield 91, 3) := by decide +kernel
theorem dX13_step_161 : decode cX13_step 161 = .ok (.aaload, 1) := by decide +kernel
theorem dX13_step_162 : decode cX13_step 162 = .ok (.iload_n 3, 1) := by decide +kernel
theorem dX13_step_163 : decode cX13_step 163 = .ok (.iaload, 1) := by decide +kernel
theorem dX13_step_164 : decode cX13_step 164 = .ok (.ifCond .ge 15, 3) := by decide +kernel
theorem dX13_step_167 : decode cX13_step 167 = .ok (.aload_n 2, 1) := by decide +kernel
theorem dX13_step_168 : decode cX13_step 168 = .ok (.getfield 134, 3) := by decide +kernel
theorem dX13_step_171 : decode cX13_step 171 = .ok (.iload_n 3, 1) := by decide +kernel
theorem dX13_step_172 : decode cX13_step 172 = .ok (.iconst 0, 1) := by decide +kernel
theorem dX13_step_173 : decode cX13_step 173 = .ok (.newarray .int, 2) := by decide +kernel
theorem dX13_step_175 : decode cX13_step 175 = .ok (.aastore, 1) := by decide +kernel
theorem dX13_step_176 : decode cX13_step 176 = .ok (.goto 100, 3) := by decide +kernel
theorem dX13_step_179 : decode cX13_step 179 = .ok (.aload_n 0, 1) := by decide +kernel
theorem dX13_step_180 : decode cX13_step 180 = .ok (.getfield 7, 3) := by decide +kernel
theorem dX13_step_183 : decode cX13_step 183 = .ok (.aload_n 2, 1) := by decide +kernel
theorem dX13_step_184 : decode cX13_step 184 = .ok (.getfield 134, 3) := by decide +kernel
theorem dX13_step_187 : decode cX13_step 187 = .ok (.iload_n 3, 1) := by decide +kernel
theorem dX13_step_188 : decode cX13_step 188 = .ok (.aaload, 1) := by decide +kernel
theorem dX13_step_189 : decode cX13_step 189 = .ok (.arraylength, 1) := by decide +kernel
theorem dX13_step_190 : decode cX13_step 190 = .ok (.iconst 1, 1) := by decide +kernel
theorem dX13_step_191 : decode cX13_step 191 = .ok (.iadd, 1) := by decide +kernel
theorem dX13_step_192 : decode cX13_step 192 = .ok (.invokestatic 154, 3) := by decide +kernel
theorem dX13_step_195 : decode cX13_step 195 = .ok (.istore 4, 2) := by decide +kernel
theorem dX13_step_197 : decode cX13_step 197 = .ok (.iload 4, 2) := by decide +kernel
theorem dX13_step_199 : decode cX13_step 199 = .ok (.newarray .int, 2) := by decide +kernel
theorem dX13_step_201 : decode cX13_step 201 = .ok (.astore 5, 2) := by decide +kernel
theorem dX13_step_203 : decode cX13_step 203 = .ok (.aload 5, 2) := by decide +kernel
theorem dX13_step_205 : decode cX13_step 205 = .ok (.iload 4, 2) := by decide +kernel
theorem dX13_step_207 : decode cX13_step 207 = .ok (.iconst 1, 1) := by decide +kernel
theorem dX13_step_208 : decode cX13_step 208 = .ok (.isub, 1) := by decide +kernel
theorem dX13_step_209 : decode cX13_step 209 = .ok (.aload_n 0, 1) := by decide +kernel
theorem dX13_step_210 : decode cX13_step 210 = .ok (.iload_n 3, 1) := by decide +kernel
theorem dX13_step_211 : decode cX13_step 211 = .ok (.aload_n 2, 1) := by decide +kernel
theorem dX13_step_212 : decode cX13_step 212 = .ok (.getfield 108, 3) := by decide +kernel
theorem dX13_step_215 : decode cX13_step 215 = .ok (.aload_n 2, 1) := by decide +kernel
theorem dX13_step_216 : decode cX13_step 216 = .ok (.getfield 111, 3) := by decide +kernel
theorem dX13_step_219 : decode cX13_step 219 = .ok (.invokevirtual 80, 3) := by decide +kernel
theorem dX13_step_222 : decode cX13_step 222 = .ok (.iastore, 1) := by decide +kernel
theorem dX13_step_223 : decode cX13_step 223 = .ok (.iconst 0, 1) := by decide +kernel
theorem dX13_step_224 : decode cX13_step 224 = .ok (.istore 6, 2) := by decide +kernel
theorem dX13_step_226 : decode cX13_step 226 = .ok (.iload 6, 2) := by decide +kernel
theorem dX13_step_228 : decode cX13_step 228 = .ok (.iload 4, 2) := by decide +kernel
theorem dX13_step_230 : decode cX13_step 230 = .ok (.iconst 1, 1) := by decide +kernel
theorem dX13_step_231 : decode cX13_step 231 = .ok (.isub, 1) := by decide +kernel
theorem dX13_step_232 : decode cX13_step 232 = .ok (.if_icmp .ge 36, 3) := by decide +kernel
theorem dX13_step_235 : decode cX13_step 235 = .ok (.aload 5, 2) := by decide +kernel
theorem dX13_step_237 : decode cX13_step 237 = .ok (.iload 6, 2) := by decide +kernel
theorem dX13_step_239 : decode cX13_step 239 = .ok (.aload_n 2, 1) := by decide +kernel
theorem dX13_step_240 : decode cX13_step 240 = .ok (.getfield 134, 3) := by decide +kernel
theorem dX13_step_243 : decode cX13_step 243 = .ok (.iload_n 3, 1) := by decide +kernel
theorem dX13_step_244 : decode cX13_step 244 = .ok (.aaload, 1) := by decide +kernel
theorem dX13_step_245 : decode cX13_step 245 = .ok (.aload_n 2, 1) := by decide +kernel
theorem dX13_step_246 : decode cX13_step 246 = .ok (.getfield 134, 3) := by decide +kernel
theorem dX13_step_249 : decode cX13_step 249 = .ok (.iload_n 3, 1) := by decide +kernel
theorem dX13_step_250 : decode cX13_step 250 = .ok (.aaload, 1) := by decide +kernel
theorem dX13_step_251 : decode cX13_step 251 = .ok (.arraylength, 1) := by decide +kernel
theorem dX13_step_252 : decode cX13_step 252 = .ok (.iload 4, 2) := by decide +kernel
theorem dX13_step_254 : decode cX13_step 254 = .ok (.iconst 1, 1) := by decide +kernel
theorem dX13_step_255 : decode cX13_step 255 = .ok (.isub, 1) := by decide +kernel
theorem dX13_step_256 : decode cX13_step 256 = .ok (.isub, 1) := by decide +kernel
theorem dX13_step_257 : decode cX13_step 257 = .ok (.iload 6, 2) := by decide +kernel
theorem dX13_step_259 : decode cX13_step 259 = .ok (.iadd, 1) := by decide +kernel
theorem dX13_step_260 : decode cX13_step 260 = .ok (.iaload, 1) := by decide +kernel
theorem dX13_step_261 : decode cX13_step 261 = .ok (.iastore, 1) := by decide +kernel
theorem dX13_step_262 : decode cX13_step 262 = .ok (.iinc 6 1, 3) := by decide +kernel
theorem dX13_step_265 : decode cX13_step 265 = .ok (.goto (-39), 3) := by decide +kernel
theorem dX13_step_268 : decode cX13_step 268 = .ok (.aload_n 2, 1) := by decide +kernel
theorem dX13_step_269 : decode cX13_step 269 = .ok (.getfield 134, 3) := by decide +kernel
theorem dX13_step_272 : decode cX13_step 272 = .ok (.iload_n 3, 1) := by decide +kernel
theorem dX13_step_273 : decode cX13_step 273 = .ok (.aload 5, 2) := by decide +kernel
theorem dX13_step_275 : decode cX13_step 275 = .ok (.aastore, 1) := by decide +kernel
theorem dX13_step_276 : decode cX13_step 276 = .ok (.iinc 3 1, 3) := by decide +kernel
theorem dX13_step_279 : decode cX13_step 279 = .ok (.goto (-142), 3) := by decide +kernel
theorem dX13_step_282 : decode cX13_step 282 = .ok (.iinc 1 1, 3) := by decide +kernel
theorem dX13_step_285 : decode cX13_step 285 = .ok (.goto (-176), 3) := by decide +kernel
theorem dX13_step_288 : decode cX13_step 288 = .ok (.iconst 0, 1) := by decide +kernel
theorem dX13_step_289 : decode cX13_step 289 = .ok (.istore_n 1, 1) := by decide +kernel
theorem dX13_step_290 : decode cX13_step 290 = .ok (.iload_n 1, 1) := by decide +kernel
theorem dX13_step_291 : decode cX13_step 291 = .ok (.aload_n 0, 1) := by decide +kernel
theorem dX13_step_292 : decode cX13_step 292 = .ok (.getfield 60, 3) := by decide +kernel
theorem dX13_step_295 : decode cX13_step 295 = .ok (.if_icmp .ge 60, 3) := by decide +kernel
theorem dX13_step_298 : decode cX13_step 298 = .ok (.aload_n 0, 1) := by decide +kernel
theorem dX13_step_299 : decode cX13_step 299 = .ok (.getfield 52, 3) := by decide +kernel
theorem dX13_step_302 : decode cX13_step 302 = .ok (.iload_n 1, 1) := by decide +kernel
theorem dX13_step_303 : decode cX13_step 303 = .ok (.aaload, 1) := by decide +kernel
theorem dX13_step_304 : decode cX13_step 304 = .ok (.getfield 88, 3) := by decide +kernel
theorem dX13_step_307 : decode cX13_step 307 = .ok (.iconst 1, 1) := by decide +kernel
theorem dX13_step_308 : decode cX13_step 308 = .ok (.if_icmp .ne 41, 3) := by decide +kernel
theorem dX13_step_311 : decode cX13_step 311 = .ok (.aload_n 0, 1) := by decide +kernel
theorem dX13_step_312 : decode cX13_step 312 = .ok (.getfield 52, 3) := by decide +kernel
theorem dX13_step_315 : decode cX13_step 315 = .ok (.iload_n 1, 1) := by decide +kernel
theorem dX13_step_316 : decode cX13_step 316 = .ok (.aaload, 1) := by decide +kernel
theorem dX13_step_317 : decode cX13_step 317 = .ok (.dup, 1) := by decide +kernel
theorem dX13_step_318 : decode cX13_step 318 = .ok (.getfield 125, 3) := by decide +kernel
theorem dX13_step_321 : decode cX13_step 321 = .ok (.iconst 1, 1) := by decide +kernel
theorem dX13_step_322 : decode cX13_step 322 = .ok (.isub, 1) := by decide +kernel
theorem dX13_step_323 : decode cX13_step 323 = .ok (.dup_x1, 1) := by decide +kernel
theorem dX13_step_324 : decode cX13_step 324 = .ok (.putfield 125, 3) := by decide +kernel
theorem dX13_step_327 : decode cX13_step 327 = .ok (.ifCond .ne 22, 3) := by decide +kernel
theorem dX13_step_330 : decode cX13_step 330 = .ok (.aload_n 0, 1) := by decide +kernel
theorem dX13_step_331 : decode cX13_step 331 = .ok (.getfield 52, 3) := by decide +kernel
theorem dX13_step_334 : decode cX13_step 334 = .ok (.iload_n 1, 1) := by decide +kernel
theorem dX13_step_335 : decode cX13_step 335 = .ok (.aaload, 1) := by decide +kernel
theorem dX13_step_336 : decode cX13_step 336 = .ok (.invokevirtual 157, 3) := by decide +kernel
theorem dX13_step_339 : decode cX13_step 339 = .ok (.aload_n 0, 1) := by decide +kernel
theorem dX13_step_340 : decode cX13_step 340 = .ok (.getfield 44, 3) := by decide +kernel
theorem dX13_step_343 : decode cX13_step 343 = .ok (.iconst 2, 1) := by decide +kernel
theorem dX13_step_344 : decode cX13_step 344 = .ok (.dup2, 1) := by decide +kernel
theorem dX13_step_345 : decode cX13_step 345 = .ok (.iaload, 1) := by decide +kernel
theorem dX13_step_346 : decode cX13_step 346 = .ok (.iconst 1, 1) := by decide +kernel
theorem dX13_step_347 : decode cX13_step 347 = .ok (.iadd, 1) := by decide +kernel
theorem dX13_step_348 : decode cX13_step 348 = .ok (.iastore, 1) := by decide +kernel
theorem dX13_step_349 : decode cX13_step 349 = .ok (.iinc 1 1, 3) := by decide +kernel
theorem dX13_step_352 : decode cX13_step 352 = .ok (.goto (-62), 3) := by decide +kernel
theorem dX13_step_355 : decode cX13_step 355 = .ok (.iconst 0, 1) := by decide +kernel
theorem dX13_step_356 : decode cX13_step 356 = .ok (.istore_n 1, 1) := by decide +kernel
theorem dX13_step_357 : decode cX13_step 357 = .ok (.iload_n 1, 1) := by decide +kernel
theorem dX13_step_358 : decode cX13_step 358 = .ok (.aload_n 0, 1) := by decide +kernel
theorem dX13_step_359 : decode cX13_step 359 = .ok (.getfield 60, 3) := by decide +kernel
theorem dX13_step_362 : decode cX13_step 362 = .ok (.if_icmp .ge 84, 3) := by decide +kernel
theorem dX13_step_365 : decode cX13_step 365 = .ok (.aload_n 0, 1) := by decide +kernel
theorem dX13_step_366 : decode cX13_step 366 = .ok (.getfield 52, 3) := by decide +kernel
theorem dX13_step_369 : decode cX13_step 369 = .ok (.iload_n 1, 1) := by decide +kernel
theorem dX13_step_370 : decode cX13_step 370 = .ok (.aaload, 1) := by decide +kernel
theorem dX13_step_371 : decode cX13_step 371 = .ok (.astore_n 2, 1) := by decide +kernel
theorem dX13_step_372 : decode cX13_step 372 = .ok (.aload_n 2, 1) := by decide +kernel
theorem dX13_step_373 : decode cX13_step 373 = .ok (.getfield 88, 3) := by decide +kernel
theorem dX13_step_376 : decode cX13_step 376 = .ok (.iconst 1, 1) := by decide +kernel
theorem dX13_step_377 : decode cX13_step 377 = .ok (.if_icmp .eq 6, 3) := by decide +kernel
theorem dX13_step_380 : decode cX13_step 380 = .ok (.goto 60, 3) := by decide +kernel
theorem dX13_step_383 : decode cX13_step 383 = .ok (.aload_n 2, 1) := by decide +kernel
theorem dX13_step_384 : decode cX13_step 384 = .ok (.aload_n 2, 1) := by decide +kernel
theorem dX13_step_385 : decode cX13_step 385 = .ok (.aload_n 2, 1) := by decide +kernel
theorem dX13_step_386 : decode cX13_step 386 = .ok (.getfield 91, 3) := by decide +kernel
theorem dX13_step_389 : decode cX13_step 389 = .ok (.invokevirtual 137, 3) := by decide +kernel
theorem dX13_step_392 : decode cX13_step 392 = .ok (.aload_n 0, 1) := by decide +kernel
theorem dX13_step_393 : decode cX13_step 393 = .ok (.getfield 22, 3) := by decide +kernel
theorem dX13_step_396 : decode cX13_step 396 = .ok (.if_icmp .ge 12, 3) := by decide +kernel
theorem dX13_step_399 : decode cX13_step 399 = .ok (.aload_n 2, 1) := by decide +kernel
theorem dX13_step_400 : decode cX13_step 400 = .ok (.getfield 131, 3) := by decide +kernel
theorem dX13_step_403 : decode cX13_step 403 = .ok (.iconst 1, 1) := by decide +kernel
theorem dX13_step_404 : decode cX13_step 404 = .ok (.iadd, 1) := by decide +kernel
theorem dX13_step_405 : decode cX13_step 405 = .ok (.goto 4, 3) := by decide +kernel
theorem dX13_step_408 : decode cX13_step 408 = .ok (.iconst 0, 1) := by decide +kernel
theorem dX13_step_409 : decode cX13_step 409 = .ok (.putfield 131, 3) := by decide +kernel
theorem dX13_step_412 : decode cX13_step 412 = .ok (.aload_n 2, 1) := by decide +kernel
theorem dX13_step_413 : decode cX13_step 413 = .ok (.getfield 131, 3) := by decide +kernel
theorem dX13_step_416 : decode cX13_step 416 = .ok (.aload_n 0, 1) := by decide +kernel
theorem dX13_step_417 : decode cX13_step 417 = .ok (.getfield 25, 3) := by decide +kernel
theorem dX13_step_420 : decode cX13_step 420 = .ok (.if_icmp .ge 6, 3) := by decide +kernel
theorem dX13_step_423 : decode cX13_step 423 = .ok (.goto 17, 3) := by decide +kernel
theorem dX13_step_426 : decode cX13_step 426 = .ok (.aload_n 2, 1) := by decide +kernel
theorem dX13_step_427 : decode cX13_step 427 = .ok (.invokevirtual 157, 3) := by decide +kernel
theorem dX13_step_430 : decode cX13_step 430 = .ok (.aload_n 0, 1) := by decide +kernel
theorem dX13_step_431 : decode cX13_step 431 = .ok (.getfield 44, 3) := by decide +kernel
theorem dX13_step_434 : decode cX13_step 434 = .ok (.iconst 3, 1) := by decide +kernel
theorem dX13_step_435 : decode cX13_step 435 = .ok (.dup2, 1) := by decide +kernel
theorem dX13_step_436 : decode cX13_step 436 = .ok (.iaload, 1) := by decide +kernel
theorem dX13_step_437 : decode cX13_step 437 = .ok (.iconst 1, 1) := by decide +kernel
theorem dX13_step_438 : decode cX13_step 438 = .ok (.iadd, 1) := by decide +kernel
theorem dX13_step_439 : decode cX13_step 439 = .ok (.iastore, 1) := by decide +kernel
theorem dX13_step_440 : decode cX13_step 440 = .ok (.iinc 1 1, 3) := by decide +kernel
theorem dX13_step_443 : decode cX13_step 443 = .ok (.goto (-86), 3) := by decide +kernel
theorem dX13_step_446 : decode cX13_step 446 = .ok (.iconst 0, 1) := by decide +kernel
theorem dX13_step_447 : decode cX13_step 447 = .ok (.istore_n 1, 1) := by decide +kernel
theorem dX13_step_448 : decode cX13_step 448 = .ok (.iload_n 1, 1) := by decide +kernel
theorem dX13_step_449 : decode cX13_step 449 = .ok (.aload_n 0, 1) := by decide +kernel
theorem dX13_step_450 : decode cX13_step 450 = .ok (.getfield 57, 3) := by decide +kernel
theorem dX13_step_453 : decode cX13_step 453 = .ok (.if_icmp .ge 78, 3) := by decide +kernel
theorem dX13_step_456 : decode cX13_step 456 = .ok (.aload_n 0, 1) := by decide +kernel
theorem dX13_step_457 : decode cX13_step 457 = .ok (.iload_n 1, 1) := by decide +kernel
theorem dX13_step_458 : decode cX13_step 458 = .ok (.invokevirtual 117, 3) := by decide +kernel
theorem dX13_step_461 : decode cX13_step 461 = .ok (.ifCond .eq 64, 3) := by decide +kernel
theorem dX13_step_464 : decode cX13_step 464 = .ok (.aload_n 0, 1) := by decide +kernel
theorem dX13_step_465 : decode cX13_step 465 = .ok (.iload_n 1, 1) := by decide +kernel
theorem dX13_step_466 : decode cX13_step 466 = .ok (.invokevirtual 99, 3) := by decide +kernel
theorem dX13_step_469 : decode cX13_step 469 = .ok (.ifCond .le 56, 3) := by decide +kernel
theorem dX13_step_472 : decode cX13_step 472 = .ok (.aload_n 0, 1) := by decide +kernel
theorem dX13_step_473 : decode cX13_step 473 = .ok (.iload_n 1, 1) := by decide +kernel
theorem dX13_step_474 : decode cX13_step 474 = .ok (.invokevirtual 160, 3) := by decide +kernel
theorem dX13_step_477 : decode cX13_step 477 = .ok (.iconst 0, 1) := by decide +kernel
theorem dX13_step_478 : decode cX13_step 478 = .ok (.iaload, 1) := by decide +kernel
theorem dX13_step_479 : decode cX13_step 479 = .ok (.istore_n 2, 1) := by decide +kernel
theorem dX13_step_480 : decode cX13_step 480 = .ok (.aload_n 0, 1) := by decide +kernel
theorem dX13_step_481 : decode cX13_step 481 = .ok (.getfield 44, 3) := by decide +kernel
theorem dX13_step_484 : decode cX13_step 484 = .ok (.bipush 6, 2) := by decide +kernel
theorem dX13_step_486 : decode cX13_step 486 = .ok (.dup2, 1) := by decide +kernel
theorem dX13_step_487 : decode cX13_step 487 = .ok (.iaload, 1) := by decide +kernel
theorem dX13_step_488 : decode cX13_step 488 = .ok (.iconst 1, 1) := by decide +kernel
theorem dX13_step_489 : decode cX13_step 489 = .ok (.iadd, 1) := by decide +kernel
theorem dX13_step_490 : decode cX13_step 490 = .ok (.iastore, 1) := by decide +kernel
theorem dX13_step_491 : decode cX13_step 491 = .ok (.aload_n 0, 1) := by decide +kernel
theorem dX13_step_492 : decode cX13_step 492 = .ok (.getfield 52, 3) := by decide +kernel
theorem dX13_step_495 : decode cX13_step 495 = .ok (.iload_n 2, 1) := by decide +kernel
theorem dX13_step_496 : decode cX13_step 496 = .ok (.aaload, 1) := by decide +kernel
theorem dX13_step_497 : decode cX13_step 497 = .ok (.getfield 102, 3) := by decide +kernel
theorem dX13_step_500 : decode cX13_step 500 = .ok (.ifCond .ne 12, 3) := by decide +kernel
theorem dX13_step_503 : decode cX13_step 503 = .ok (.aload_n 0, 1) := by decide +kernel
theorem dX13_step_504 : decode cX13_step 504 = .ok (.iload_n 2, 1) := by decide +kernel
theorem dX13_step_505 : decode cX13_step 505 = .ok (.iload_n 1, 1) := by decide +kernel
theorem dX13_step_506 : decode cX13_step 506 = .ok (.invokevirtual 144, 3) := by decide +kernel
theorem dX13_step_509 : decode cX13_step 509 = .ok (.goto 13, 3) := by decide +kernel
theorem dX13_step_512 : decode cX13_step 512 = .ok (.aload_n 0, 1) := by decide +kernel
theorem dX13_step_513 : decode cX13_step 513 = .ok (.getfield 52, 3) := by decide +kernel
theorem dX13_step_516 : decode cX13_step 516 = .ok (.iload_n 2, 1) := by decide +kernel
theorem dX13_step_517 : decode cX13_step 517 = .ok (.aaload, 1) := by decide +kernel
theorem dX13_step_518 : decode cX13_step 518 = .ok (.iload_n 1, 1) := by decide +kernel
theorem dX13_step_519 : decode cX13_step 519 = .ok (.invokevirtual 121, 3) := by decide +kernel
theorem dX13_step_522 : decode cX13_step 522 = .ok (.goto (-66), 3) := by decide +kernel
theorem dX13_step_525 : decode cX13_step 525 = .ok (.iinc 1 1, 3) := by decide +kernel
theorem dX13_step_528 : decode cX13_step 528 = .ok (.goto (-80), 3) := by decide +kernel
theorem dX13_step_531 : decode cX13_step 531 = .ok (.iconst 0, 1) := by decide +kernel
theorem dX13_step_532 : decode cX13_step 532 = .ok (.istore_n 1, 1) := by decide +kernel
theorem dX13_step_533 : decode cX13_step 533 = .ok (.iload_n 1, 1) := by decide +kernel
theorem dX13_step_534 : decode cX13_step 534 = .ok (.aload_n 0, 1) := by decide +kernel
theorem dX13_step_535 : decode cX13_step 535 = .ok (.getfield 60, 3) := by decide +kernel
theorem dX13_step_538 : decode cX13_step 538 = .ok (.if_icmp .ge 39, 3) := by decide +kernel
theorem dX13_step_541 : decode cX13_step 541 = .ok (.aload_n 0, 1) := by decide +kernel
theorem dX13_step_542 : decode cX13_step 542 = .ok (.getfield 52, 3) := by decide +kernel
theorem dX13_step_545 : decode cX13_step 545 = .ok (.iload_n 1, 1) := by decide +kernel
theorem dX13_step_546 : decode cX13_step 546 = .ok (.aaload, 1) := by decide +kernel
theorem dX13_step_547 : decode cX13_step 547 = .ok (.getfield 88, 3) := by decide +kernel
theorem dX13_step_550 : decode cX13_step 550 = .ok (.iconst 1, 1) := by decide +kernel
theorem dX13_step_551 : decode cX13_step 551 = .ok (.if_icmp .ne 20, 3) := by decide +kernel
theorem dX13_step_554 : decode cX13_step 554 = .ok (.aload_n 0, 1) := by decide +kernel
theorem dX13_step_555 : decode cX13_step 555 = .ok (.getfield 52, 3) := by decide +kernel
theorem dX13_step_558 : decode cX13_step 558 = .ok (.iload_n 1, 1) := by decide +kernel
theorem dX13_step_559 : decode cX13_step 559 = .ok (.aaload, 1) := by decide +kernel
theorem dX13_step_560 : decode cX13_step 560 = .ok (.getfield 96, 3) := by decide +kernel
theorem dX13_step_563 : decode cX13_step 563 = .ok (.ifCond .ge 8, 3) := by decide +kernel
theorem dX13_step_566 : decode cX13_step 566 = .ok (.aload_n 0, 1) := by decide +kernel
theorem dX13_step_567 : decode cX13_step 567 = .ok (.iload_n 1, 1) := by decide +kernel
theorem dX13_step_568 : decode cX13_step 568 = .ok (.invokevirtual 163, 3) := by decide +kernel
theorem dX13_step_571 : decode cX13_step 571 = .ok (.iinc 1 1, 3) := by decide +kernel
theorem dX13_step_574 : decode cX13_step 574 = .ok (.goto (-41), 3) := by decide +kernel
theorem dX13_step_577 : decode cX13_step 577 = .ok (.iconst 0, 1) := by decide +kernel
theorem dX13_step_578 : decode cX13_step 578 = .ok (.istore_n 1, 1) := by decide +kernel
theorem dX13_step_579 : decode cX13_step 579 = .ok (.iload_n 1, 1) := by decide +kernel
theorem dX13_step_580 : decode cX13_step 580 = .ok (.aload_n 0, 1) := by decide +kernel
theorem dX13_step_581 : decode cX13_step 581 = .ok (.getfield 57, 3) := by decide +kernel
theorem dX13_step_584 : decode cX13_step 584 = .ok (.if_icmp .ge 27, 3) := by decide +kernel
theorem dX13_step_587 : decode cX13_step 587 = .ok (.aload_n 0, 1) := by decide +kernel
theorem dX13_step_588 : decode cX13_step 588 = .ok (.iload_n 1, 1) := by decide +kernel
theorem dX13_step_589 : decode cX13_step 589 = .ok (.invokevirtual 117, 3) := by decide +kernel
theorem dX13_step_592 : decode cX13_step 592 = .ok (.ifCond .ne 13, 3) := by decide +kernel
theorem dX13_step_595 : decode cX13_step 595 = .ok (.aload_n 0, 1) := by decide +kernel
theorem dX13_step_596 : decode cX13_step 596 = .ok (.getfield 47, 3) := by decide +kernel
theorem dX13_step_599 : decode cX13_step 599 = .ok (.iload_n 1, 1) := by decide +kernel
theorem dX13_step_600 : decode cX13_step 600 = .ok (.dup2, 1) := by decide +kernel
theorem dX13_step_601 : decode cX13_step 601 = .ok (.iaload, 1) := by decide +kernel
theorem dX13_step_602 : decode cX13_step 602 = .ok (.iconst 1, 1) := by decide +kernel
theorem dX13_step_603 : decode cX13_step 603 = .ok (.iadd, 1) := by decide +kernel
theorem dX13_step_604 : decode cX13_step 604 = .ok (.iastore, 1) := by decide +kernel
theorem dX13_step_605 : decode cX13_step 605 = .ok (.iinc 1 1, 3) := by decide +kernel
theorem dX13_step_608 : decode cX13_step 608 = .ok (.goto (-29), 3) := by decide +kernel
theorem dX13_step_611 : decode cX13_step 611 = .ok (.iconst 0, 1) := by decide +kernel
theorem dX13_step_612 : decode cX13_step 612 = .ok (.istore_n 1, 1) := by decide +kernel
theorem dX13_step_613 : decode cX13_step 613 = .ok (.iload_n 1, 1) := by decide +kernel
theorem dX13_step_614 : decode cX13_step 614 = .ok (.aload_n 0, 1) := by decide +kernel
theorem dX13_step_615 : decode cX13_step 615 = .ok (.getfield 60, 3) := by decide +kernel
theorem dX13_step_618 : decode cX13_step 618 = .ok (.if_icmp .ge 83, 3) := by decide +kernel
theorem dX13_step_621 : decode cX13_step 621 = .ok (.aload_n 0, 1) := by decide +kernel
theorem dX13_step_622 : decode cX13_step 622 = .ok (.getfield 52, 3) := by decide +kernel
theorem dX13_step_625 : decode cX13_step 625 = .ok (.iload_n 1, 1) := by decide +kernel
theorem dX13_step_626 : decode cX13_step 626 = .ok (.aaload, 1) := by decide +kernel
theorem dX13_step_627 : decode cX13_step 627 = .ok (.astore_n 2, 1) := by decide +kernel
theorem dX13_step_628 : decode cX13_step 628 = .ok (.aload_n 2, 1) := by decide +kernel
theorem dX13_step_629 : decode cX13_step 629 = .ok (.getfield 96, 3) := by decide +kernel
theorem dX13_step_632 : decode cX13_step 632 = .ok (.ifCond .lt 63, 3) := by decide +kernel
theorem dX13_step_635 : decode cX13_step 635 = .ok (.aload_n 2, 1) := by decide +kernel
theorem dX13_step_636 : decode cX13_step 636 = .ok (.getfield 105, 3) := by decide +kernel
theorem dX13_step_639 : decode cX13_step 639 = .ok (.aload_n 0, 1) := by decide +kernel
theorem dX13_step_640 : decode cX13_step 640 = .ok (.getfield 19, 3) := by decide +kernel
theorem dX13_step_643 : decode cX13_step 643 = .ok (.iadd, 1) := by decide +kernel
theorem dX13_step_644 : decode cX13_step 644 = .ok (.aload_n 0, 1) := by decide +kernel
theorem dX13_step_645 : decode cX13_step 645 = .ok (.getfield 63, 3) := by decide +kernel
theorem dX13_step_648 : decode cX13_step 648 = .ok (.if_icmp .le 6, 3) := by decide +kernel
theorem dX13_step_651 : decode cX13_step 651 = .ok (.goto 44, 3) := by decide +kernel
theorem dX13_step_654 : decode cX13_step 654 = .ok (.aload_n 0, 1) := by decide +kernel
theorem dX13_step_655 : decode cX13_step 655 = .ok (.getfield 44, 3) := by decide +kernel
theorem dX13_step_658 : decode cX13_step 658 = .ok (.bipush 7, 2) := by decide +kernel
theorem dX13_step_660 : decode cX13_step 660 = .ok (.dup2, 1) := by decide +kernel
theorem dX13_step_661 : decode cX13_step 661 = .ok (.iaload, 1) := by decide +kernel
theorem dX13_step_662 : decode cX13_step 662 = .ok (.iconst 1, 1) := by decide +kernel
theorem dX13_step_663 : decode cX13_step 663 = .ok (.iadd, 1) := by decide +kernel
theorem dX13_step_664 : decode cX13_step 664 = .ok (.iastore, 1) := by decide +kernel
theorem dX13_step_665 : decode cX13_step 665 = .ok (.aload_n 2, 1) := by decide +kernel
theorem dX13_step_666 : decode cX13_step 666 = .ok (.iconst (-1), 1) := by decide +kernel
theorem dX13_step_667 : decode cX13_step 667 = .ok (.putfield 96, 3) := by decide +kernel
theorem dX13_step_670 : decode cX13_step 670 = .ok (.aload_n 2, 1) := by decide +kernel
theorem dX13_step_671 : decode cX13_step 671 = .ok (.getfield 88, 3) := by decide +kernel
theorem dX13_step_674 : decode cX13_step 674 = .ok (.iconst 2, 1) := by decide +kernel
theorem dX13_step_675 : decode cX13_step 675 = .ok (.if_icmp .eq 6, 3) := by decide +kernel
theorem dX13_step_678 : decode cX13_step 678 = .ok (.goto 17, 3) := by decide +kernel
theorem dX13_step_681 : decode cX13_step 681 = .ok (.aload_n 2, 1) := by decide +kernel
theorem dX13_step_682 : decode cX13_step 682 = .ok (.invokevirtual 157, 3) := by decide +kernel
theorem dX13_step_685 : decode cX13_step 685 = .ok (.aload_n 0, 1) := by decide +kernel
theorem dX13_step_686 : decode cX13_step 686 = .ok (.getfield 44, 3) := by decide +kernel
theorem dX13_step_689 : decode cX13_step 689 = .ok (.iconst 4, 1) := by decide +kernel
theorem dX13_step_690 : decode cX13_step 690 = .ok (.dup2, 1) := by decide +kernel
theorem dX13_step_691 : decode cX13_step 691 = .ok (.iaload, 1) := by decide +kernel
theorem dX13_step_692 : decode cX13_step 692 = .ok (.iconst 1, 1) := by decide +kernel
theorem dX13_step_693 : decode cX13_step 693 = .ok (.iadd, 1) := by decide +kernel
theorem dX13_step_694 : decode cX13_step 694 = .ok (.iastore, 1) := by decide +kernel
theorem dX13_step_695 : decode cX13_step 695 = .ok (.iinc 1 1, 3) := by decide +kernel
theorem dX13_step_698 : decode cX13_step 698 = .ok (.goto (-85), 3) := by decide +kernel
theorem dX13_step_701 : decode cX13_step 701 = .ok (.aload_n 0, 1) := by decide +kernel
theorem dX13_step_702 : decode cX13_step 702 = .ok (.dup, 1) := by decide +kernel
theorem dX13_step_703 : decode cX13_step 703 = .ok (.getfield 63, 3) := by decide +kernel
theorem dX13_step_706 : decode cX13_step 706 = .ok (.iconst 1, 1) := by decide +kernel
theorem dX13_step_707 : decode cX13_step 707 = .ok (.iadd, 1) := by decide +kernel
theorem dX13_step_708 : decode cX13_step 708 = .ok (.putfield 63, 3) := by decide +kernel
theorem dX13_step_711 : decode cX13_step 711 = .ok (.return_, 1) := by decide +kernel
