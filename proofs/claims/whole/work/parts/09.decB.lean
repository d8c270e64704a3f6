theorem dX12_init_0 : decode cX12_init 0 = .ok (.aload_n 0, 1) := by decide +kernel
theorem dX12_init_1 : decode cX12_init 1 = .ok (.invokespecial 1, 3) := by decide +kernel
theorem dX12_init_4 : decode cX12_init 4 = .ok (.aload_n 0, 1) := by decide +kernel
theorem dX12_init_5 : decode cX12_init 5 = .ok (.sipush 1302, 3) := by decide +kernel
theorem dX12_init_8 : decode cX12_init 8 = .ok (.newarray .int, 2) := by decide +kernel
theorem dX12_init_10 : decode cX12_init 10 = .ok (.putfield 9, 3) := by decide +kernel
theorem dX12_init_13 : decode cX12_init 13 = .ok (.aload_n 0, 1) := by decide +kernel
theorem dX12_init_14 : decode cX12_init 14 = .ok (.sipush 1302, 3) := by decide +kernel
theorem dX12_init_17 : decode cX12_init 17 = .ok (.newarray .int, 2) := by decide +kernel
theorem dX12_init_19 : decode cX12_init 19 = .ok (.putfield 13, 3) := by decide +kernel
theorem dX12_init_22 : decode cX12_init 22 = .ok (.aload_n 0, 1) := by decide +kernel
theorem dX12_init_23 : decode cX12_init 23 = .ok (.sipush 1302, 3) := by decide +kernel
theorem dX12_init_26 : decode cX12_init 26 = .ok (.newarray .int, 2) := by decide +kernel
theorem dX12_init_28 : decode cX12_init 28 = .ok (.putfield 16, 3) := by decide +kernel
theorem dX12_init_31 : decode cX12_init 31 = .ok (.aload_n 0, 1) := by decide +kernel
theorem dX12_init_32 : decode cX12_init 32 = .ok (.sipush 1302, 3) := by decide +kernel
theorem dX12_init_35 : decode cX12_init 35 = .ok (.newarray .int, 2) := by decide +kernel
theorem dX12_init_37 : decode cX12_init 37 = .ok (.putfield 19, 3) := by decide +kernel
theorem dX12_init_40 : decode cX12_init 40 = .ok (.aload_n 0, 1) := by decide +kernel
theorem dX12_init_41 : decode cX12_init 41 = .ok (.sipush 15624, 3) := by decide +kernel
theorem dX12_init_44 : decode cX12_init 44 = .ok (.newarray .int, 2) := by decide +kernel
theorem dX12_init_46 : decode cX12_init 46 = .ok (.putfield 22, 3) := by decide +kernel
theorem dX12_init_49 : decode cX12_init 49 = .ok (.aload_n 0, 1) := by decide +kernel
theorem dX12_init_50 : decode cX12_init 50 = .ok (.bipush 8, 2) := by decide +kernel
theorem dX12_init_52 : decode cX12_init 52 = .ok (.newarray .int, 2) := by decide +kernel
theorem dX12_init_54 : decode cX12_init 54 = .ok (.putfield 25, 3) := by decide +kernel
theorem dX12_init_57 : decode cX12_init 57 = .ok (.aload_n 0, 1) := by decide +kernel
theorem dX12_init_58 : decode cX12_init 58 = .ok (.bipush 8, 2) := by decide +kernel
theorem dX12_init_60 : decode cX12_init 60 = .ok (.newarray .int, 2) := by decide +kernel
theorem dX12_init_62 : decode cX12_init 62 = .ok (.putfield 28, 3) := by decide +kernel
theorem dX12_init_65 : decode cX12_init 65 = .ok (.aload_n 0, 1) := by decide +kernel
theorem dX12_init_66 : decode cX12_init 66 = .ok (.sipush 700, 3) := by decide +kernel
theorem dX12_init_69 : decode cX12_init 69 = .ok (.newarray .int, 2) := by decide +kernel
theorem dX12_init_71 : decode cX12_init 71 = .ok (.putfield 31, 3) := by decide +kernel
theorem dX12_init_74 : decode cX12_init 74 = .ok (.aload_n 0, 1) := by decide +kernel
theorem dX12_init_75 : decode cX12_init 75 = .ok (.iconst (-1), 1) := by decide +kernel
theorem dX12_init_76 : decode cX12_init 76 = .ok (.putfield 34, 3) := by decide +kernel
theorem dX12_init_79 : decode cX12_init 79 = .ok (.aload_n 0, 1) := by decide +kernel
theorem dX12_init_80 : decode cX12_init 80 = .ok (.bipush 8, 2) := by decide +kernel
theorem dX12_init_82 : decode cX12_init 82 = .ok (.anewarray 38, 3) := by decide +kernel
theorem dX12_init_85 : decode cX12_init 85 = .ok (.dup, 1) := by decide +kernel
theorem dX12_init_86 : decode cX12_init 86 = .ok (.iconst 0, 1) := by decide +kernel
theorem dX12_init_87 : decode cX12_init 87 = .ok (.ldc 40, 2) := by decide +kernel
theorem dX12_init_89 : decode cX12_init 89 = .ok (.aastore, 1) := by decide +kernel
theorem dX12_init_90 : decode cX12_init 90 = .ok (.dup, 1) := by decide +kernel
theorem dX12_init_91 : decode cX12_init 91 = .ok (.iconst 1, 1) := by decide +kernel
theorem dX12_init_92 : decode cX12_init 92 = .ok (.ldc 42, 2) := by decide +kernel
theorem dX12_init_94 : decode cX12_init 94 = .ok (.aastore, 1) := by decide +kernel
theorem dX12_init_95 : decode cX12_init 95 = .ok (.dup, 1) := by decide +kernel
theorem dX12_init_96 : decode cX12_init 96 = .ok (.iconst 2, 1) := by decide +kernel
theorem dX12_init_97 : decode cX12_init 97 = .ok (.ldc 44, 2) := by decide +kernel
theorem dX12_init_99 : decode cX12_init 99 = .ok (.aastore, 1) := by decide +kernel
theorem dX12_init_100 : decode cX12_init 100 = .ok (.dup, 1) := by decide +kernel
theorem dX12_init_101 : decode cX12_init 101 = .ok (.iconst 3, 1) := by decide +kernel
theorem dX12_init_102 : decode cX12_init 102 = .ok (.ldc 46, 2) := by decide +kernel
theorem dX12_init_104 : decode cX12_init 104 = .ok (.aastore, 1) := by decide +kernel
theorem dX12_init_105 : decode cX12_init 105 = .ok (.dup, 1) := by decide +kernel
theorem dX12_init_106 : decode cX12_init 106 = .ok (.iconst 4, 1) := by decide +kernel
theorem dX12_init_107 : decode cX12_init 107 = .ok (.ldc 48, 2) := by decide +kernel
theorem dX12_init_109 : decode cX12_init 109 = .ok (.aastore, 1) := by decide +kernel
theorem dX12_init_110 : decode cX12_init 110 = .ok (.dup, 1) := by decide +kernel
theorem dX12_init_111 : decode cX12_init 111 = .ok (.iconst 5, 1) := by decide +kernel
theorem dX12_init_112 : decode cX12_init 112 = .ok (.ldc 50, 2) := by decide +kernel
theorem dX12_init_114 : decode cX12_init 114 = .ok (.aastore, 1) := by decide +kernel
theorem dX12_init_115 : decode cX12_init 115 = .ok (.dup, 1) := by decide +kernel
theorem dX12_init_116 : decode cX12_init 116 = .ok (.bipush 6, 2) := by decide +kernel
theorem dX12_init_118 : decode cX12_init 118 = .ok (.ldc 52, 2) := by decide +kernel
theorem dX12_init_120 : decode cX12_init 120 = .ok (.aastore, 1) := by decide +kernel
theorem dX12_init_121 : decode cX12_init 121 = .ok (.dup, 1) := by decide +kernel
theorem dX12_init_122 : decode cX12_init 122 = .ok (.bipush 7, 2) := by decide +kernel
theorem dX12_init_124 : decode cX12_init 124 = .ok (.ldc 54, 2) := by decide +kernel
theorem dX12_init_126 : decode cX12_init 126 = .ok (.aastore, 1) := by decide +kernel
theorem dX12_init_127 : decode cX12_init 127 = .ok (.putfield 56, 3) := by decide +kernel
theorem dX12_init_130 : decode cX12_init 130 = .ok (.aload_n 0, 1) := by decide +kernel
theorem dX12_init_131 : decode cX12_init 131 = .ok (.sipush 200, 3) := by decide +kernel
theorem dX12_init_134 : decode cX12_init 134 = .ok (.newarray .int, 2) := by decide +kernel
theorem dX12_init_136 : decode cX12_init 136 = .ok (.putfield 60, 3) := by decide +kernel
theorem dX12_init_139 : decode cX12_init 139 = .ok (.aload_n 0, 1) := by decide +kernel
theorem dX12_init_140 : decode cX12_init 140 = .ok (.sipush 200, 3) := by decide +kernel
theorem dX12_init_143 : decode cX12_init 143 = .ok (.newarray .int, 2) := by decide +kernel
theorem dX12_init_145 : decode cX12_init 145 = .ok (.putfield 63, 3) := by decide +kernel
theorem dX12_init_148 : decode cX12_init 148 = .ok (.aload_n 0, 1) := by decide +kernel
theorem dX12_init_149 : decode cX12_init 149 = .ok (.getfield 9, 3) := by decide +kernel
theorem dX12_init_152 : decode cX12_init 152 = .ok (.invokestatic 66, 3) := by decide +kernel
theorem dX12_init_155 : decode cX12_init 155 = .ok (.return_, 1) := by decide +kernel
theorem dX12_thrown_0 : decode cX12_thrown 0 = .ok (.aload_n 0, 1) := by decide +kernel
theorem dX12_thrown_1 : decode cX12_thrown 1 = .ok (.getfield 70, 3) := by decide +kernel
theorem dX12_thrown_4 : decode cX12_thrown 4 = .ok (.ireturn, 1) := by decide +kernel
theorem dX12_raise_0 : decode cX12_raise 0 = .ok (.aload_n 0, 1) := by decide +kernel
theorem dX12_raise_1 : decode cX12_raise 1 = .ok (.iload_n 1, 1) := by decide +kernel
theorem dX12_raise_2 : decode cX12_raise 2 = .ok (.putfield 70, 3) := by decide +kernel
theorem dX12_raise_5 : decode cX12_raise 5 = .ok (.iconst 0, 1) := by decide +kernel
theorem dX12_raise_6 : decode cX12_raise 6 = .ok (.ireturn, 1) := by decide +kernel
theorem dX12_inRange_0 : decode cX12_inRange 0 = .ok (.iload_n 0, 1) := by decide +kernel
theorem dX12_inRange_1 : decode cX12_inRange 1 = .ok (.iload_n 1, 1) := by decide +kernel
theorem dX12_inRange_2 : decode cX12_inRange 2 = .ok (.if_icmp .lt 12, 3) := by decide +kernel
theorem dX12_inRange_5 : decode cX12_inRange 5 = .ok (.iload_n 0, 1) := by decide +kernel
theorem dX12_inRange_6 : decode cX12_inRange 6 = .ok (.iload_n 2, 1) := by decide +kernel
theorem dX12_inRange_7 : decode cX12_inRange 7 = .ok (.if_icmp .gt 7, 3) := by decide +kernel
theorem dX12_inRange_10 : decode cX12_inRange 10 = .ok (.iconst 1, 1) := by decide +kernel
theorem dX12_inRange_11 : decode cX12_inRange 11 = .ok (.goto 4, 3) := by decide +kernel
theorem dX12_inRange_14 : decode cX12_inRange 14 = .ok (.iconst 0, 1) := by decide +kernel
theorem dX12_inRange_15 : decode cX12_inRange 15 = .ok (.ireturn, 1) := by decide +kernel
theorem dX12_clear_0 : decode cX12_clear 0 = .ok (.iconst 0, 1) := by decide +kernel
theorem dX12_clear_1 : decode cX12_clear 1 = .ok (.istore_n 1, 1) := by decide +kernel
theorem dX12_clear_2 : decode cX12_clear 2 = .ok (.iload_n 1, 1) := by decide +kernel
theorem dX12_clear_3 : decode cX12_clear 3 = .ok (.sipush 1302, 3) := by decide +kernel
theorem dX12_clear_6 : decode cX12_clear 6 = .ok (.if_icmp .ge 13, 3) := by decide +kernel
theorem dX12_clear_9 : decode cX12_clear 9 = .ok (.aload_n 0, 1) := by decide +kernel
theorem dX12_clear_10 : decode cX12_clear 10 = .ok (.iload_n 1, 1) := by decide +kernel
theorem dX12_clear_11 : decode cX12_clear 11 = .ok (.iconst 0, 1) := by decide +kernel
theorem dX12_clear_12 : decode cX12_clear 12 = .ok (.iastore, 1) := by decide +kernel
theorem dX12_clear_13 : decode cX12_clear 13 = .ok (.iinc 1 1, 3) := by decide +kernel
theorem dX12_clear_16 : decode cX12_clear 16 = .ok (.goto (-14), 3) := by decide +kernel
theorem dX12_clear_19 : decode cX12_clear 19 = .ok (.aload_n 0, 1) := by decide +kernel
theorem dX12_clear_20 : decode cX12_clear 20 = .ok (.iconst 4, 1) := by decide +kernel
theorem dX12_clear_21 : decode cX12_clear 21 = .ok (.iconst 4, 1) := by decide +kernel
theorem dX12_clear_22 : decode cX12_clear 22 = .ok (.iastore, 1) := by decide +kernel
theorem dX12_clear_23 : decode cX12_clear 23 = .ok (.aload_n 0, 1) := by decide +kernel
theorem dX12_clear_24 : decode cX12_clear 24 = .ok (.iconst 5, 1) := by decide +kernel
theorem dX12_clear_25 : decode cX12_clear 25 = .ok (.iconst 2, 1) := by decide +kernel
theorem dX12_clear_26 : decode cX12_clear 26 = .ok (.iastore, 1) := by decide +kernel
theorem dX12_clear_27 : decode cX12_clear 27 = .ok (.aload_n 0, 1) := by decide +kernel
theorem dX12_clear_28 : decode cX12_clear 28 = .ok (.bipush 6, 2) := by decide +kernel
theorem dX12_clear_30 : decode cX12_clear 30 = .ok (.iconst 5, 1) := by decide +kernel
theorem dX12_clear_31 : decode cX12_clear 31 = .ok (.iastore, 1) := by decide +kernel
theorem dX12_clear_32 : decode cX12_clear 32 = .ok (.aload_n 0, 1) := by decide +kernel
theorem dX12_clear_33 : decode cX12_clear 33 = .ok (.bipush 7, 2) := by decide +kernel
theorem dX12_clear_35 : decode cX12_clear 35 = .ok (.iconst 4, 1) := by decide +kernel
theorem dX12_clear_36 : decode cX12_clear 36 = .ok (.iastore, 1) := by decide +kernel
theorem dX12_clear_37 : decode cX12_clear 37 = .ok (.aload_n 0, 1) := by decide +kernel
theorem dX12_clear_38 : decode cX12_clear 38 = .ok (.bipush 8, 2) := by decide +kernel
theorem dX12_clear_40 : decode cX12_clear 40 = .ok (.iconst 5, 1) := by decide +kernel
theorem dX12_clear_41 : decode cX12_clear 41 = .ok (.iastore, 1) := by decide +kernel
theorem dX12_clear_42 : decode cX12_clear 42 = .ok (.aload_n 0, 1) := by decide +kernel
theorem dX12_clear_43 : decode cX12_clear 43 = .ok (.bipush 9, 2) := by decide +kernel
theorem dX12_clear_45 : decode cX12_clear 45 = .ok (.iconst 3, 1) := by decide +kernel
theorem dX12_clear_46 : decode cX12_clear 46 = .ok (.iastore, 1) := by decide +kernel
theorem dX12_clear_47 : decode cX12_clear 47 = .ok (.return_, 1) := by decide +kernel
theorem dX12_ofCell_0 : decode cX12_ofCell 0 = .ok (.aload_n 0, 1) := by decide +kernel
theorem dX12_ofCell_1 : decode cX12_ofCell 1 = .ok (.getfield 9, 3) := by decide +kernel
theorem dX12_ofCell_4 : decode cX12_ofCell 4 = .ok (.bipush 18, 2) := by decide +kernel
theorem dX12_ofCell_6 : decode cX12_ofCell 6 = .ok (.bipush 9, 2) := by decide +kernel
theorem dX12_ofCell_8 : decode cX12_ofCell 8 = .ok (.iload_n 1, 1) := by decide +kernel
theorem dX12_ofCell_9 : decode cX12_ofCell 9 = .ok (.imul, 1) := by decide +kernel
theorem dX12_ofCell_10 : decode cX12_ofCell 10 = .ok (.iadd, 1) := by decide +kernel
theorem dX12_ofCell_11 : decode cX12_ofCell 11 = .ok (.iload_n 2, 1) := by decide +kernel
theorem dX12_ofCell_12 : decode cX12_ofCell 12 = .ok (.iadd, 1) := by decide +kernel
theorem dX12_ofCell_13 : decode cX12_ofCell 13 = .ok (.iaload, 1) := by decide +kernel
theorem dX12_ofCell_14 : decode cX12_ofCell 14 = .ok (.ireturn, 1) := by decide +kernel
theorem dX12_ofRelation_0 : decode cX12_ofRelation 0 = .ok (.aload_n 0, 1) := by decide +kernel
theorem dX12_ofRelation_1 : decode cX12_ofRelation 1 = .ok (.getfield 9, 3) := by decide +kernel
theorem dX12_ofRelation_4 : decode cX12_ofRelation 4 = .ok (.bipush 90, 2) := by decide +kernel
theorem dX12_ofRelation_6 : decode cX12_ofRelation 6 = .ok (.iconst 5, 1) := by decide +kernel
theorem dX12_ofRelation_7 : decode cX12_ofRelation 7 = .ok (.iload_n 1, 1) := by decide +kernel
theorem dX12_ofRelation_8 : decode cX12_ofRelation 8 = .ok (.imul, 1) := by decide +kernel
theorem dX12_ofRelation_9 : decode cX12_ofRelation 9 = .ok (.iadd, 1) := by decide +kernel
theorem dX12_ofRelation_10 : decode cX12_ofRelation 10 = .ok (.iload_n 2, 1) := by decide +kernel
theorem dX12_ofRelation_11 : decode cX12_ofRelation 11 = .ok (.iadd, 1) := by decide +kernel
theorem dX12_ofRelation_12 : decode cX12_ofRelation 12 = .ok (.iaload, 1) := by decide +kernel
theorem dX12_ofRelation_13 : decode cX12_ofRelation 13 = .ok (.ireturn, 1) := by decide +kernel
theorem dX12_addToRelation_0 : decode cX12_addToRelation 0 = .ok (.aload_n 0, 1) := by decide +kernel
theorem dX12_addToRelation_1 : decode cX12_addToRelation 1 = .ok (.getfield 9, 3) := by decide +kernel
theorem dX12_addToRelation_4 : decode cX12_addToRelation 4 = .ok (.bipush 90, 2) := by decide +kernel
theorem dX12_addToRelation_6 : decode cX12_addToRelation 6 = .ok (.iconst 5, 1) := by decide +kernel
theorem dX12_addToRelation_7 : decode cX12_addToRelation 7 = .ok (.iload_n 1, 1) := by decide +kernel
theorem dX12_addToRelation_8 : decode cX12_addToRelation 8 = .ok (.imul, 1) := by decide +kernel
theorem dX12_addToRelation_9 : decode cX12_addToRelation 9 = .ok (.iadd, 1) := by decide +kernel
theorem dX12_addToRelation_10 : decode cX12_addToRelation 10 = .ok (.iload_n 2, 1) := by decide +kernel
theorem dX12_addToRelation_11 : decode cX12_addToRelation 11 = .ok (.iadd, 1) := by decide +kernel
theorem dX12_addToRelation_12 : decode cX12_addToRelation 12 = .ok (.dup2, 1) := by decide +kernel
theorem dX12_addToRelation_13 : decode cX12_addToRelation 13 = .ok (.iaload, 1) := by decide +kernel
theorem dX12_addToRelation_14 : decode cX12_addToRelation 14 = .ok (.iconst 1, 1) := by decide +kernel
theorem dX12_addToRelation_15 : decode cX12_addToRelation 15 = .ok (.iadd, 1) := by decide +kernel
theorem dX12_addToRelation_16 : decode cX12_addToRelation 16 = .ok (.iastore, 1) := by decide +kernel
theorem dX12_addToRelation_17 : decode cX12_addToRelation 17 = .ok (.return_, 1) := by decide +kernel
theorem dX12_of_0 : decode cX12_of 0 = .ok (.aload_n 0, 1) := by decide +kernel
theorem dX12_of_1 : decode cX12_of 1 = .ok (.getfield 9, 3) := by decide +kernel
theorem dX12_of_4 : decode cX12_of 4 = .ok (.sipush 210, 3) := by decide +kernel
theorem dX12_of_7 : decode cX12_of 7 = .ok (.bipush 91, 2) := by decide +kernel
theorem dX12_of_9 : decode cX12_of 9 = .ok (.iload_n 1, 1) := by decide +kernel
theorem dX12_of_10 : decode cX12_of 10 = .ok (.imul, 1) := by decide +kernel
theorem dX12_of_11 : decode cX12_of 11 = .ok (.iadd, 1) := by decide +kernel
theorem dX12_of_12 : decode cX12_of 12 = .ok (.iload_n 2, 1) := by decide +kernel
theorem dX12_of_13 : decode cX12_of 13 = .ok (.iadd, 1) := by decide +kernel
theorem dX12_of_14 : decode cX12_of 14 = .ok (.iaload, 1) := by decide +kernel
theorem dX12_of_15 : decode cX12_of 15 = .ok (.ireturn, 1) := by decide +kernel
theorem dX12_put_0 : decode cX12_put 0 = .ok (.aload_n 0, 1) := by decide +kernel
theorem dX12_put_1 : decode cX12_put 1 = .ok (.getfield 9, 3) := by decide +kernel
theorem dX12_put_4 : decode cX12_put 4 = .ok (.sipush 210, 3) := by decide +kernel
theorem dX12_put_7 : decode cX12_put 7 = .ok (.bipush 91, 2) := by decide +kernel
theorem dX12_put_9 : decode cX12_put 9 = .ok (.iload_n 1, 1) := by decide +kernel
theorem dX12_put_10 : decode cX12_put 10 = .ok (.imul, 1) := by decide +kernel
theorem dX12_put_11 : decode cX12_put 11 = .ok (.iadd, 1) := by decide +kernel
theorem dX12_put_12 : decode cX12_put 12 = .ok (.iload_n 2, 1) := by decide +kernel
theorem dX12_put_13 : decode cX12_put 13 = .ok (.iadd, 1) := by decide +kernel
theorem dX12_put_14 : decode cX12_put 14 = .ok (.iload_n 3, 1) := by decide +kernel
theorem dX12_put_15 : decode cX12_put 15 = .ok (.iastore, 1) := by decide +kernel
theorem dX12_put_16 : decode cX12_put 16 = .ok (.return_, 1) := by decide +kernel
theorem dX12_isCell_0 : decode cX12_isCell 0 = .ok (.iload_n 1, 1) := by decide +kernel
theorem dX12_isCell_1 : decode cX12_isCell 1 = .ok (.iconst 0, 1) := by decide +kernel
theorem dX12_isCell_2 : decode cX12_isCell 2 = .ok (.aload_n 0, 1) := by decide +kernel
theorem dX12_isCell_3 : decode cX12_isCell 3 = .ok (.getfield 9, 3) := by decide +kernel
theorem dX12_isCell_6 : decode cX12_isCell 6 = .ok (.iconst 0, 1) := by decide +kernel
theorem dX12_isCell_7 : decode cX12_isCell 7 = .ok (.iaload, 1) := by decide +kernel
theorem dX12_isCell_8 : decode cX12_isCell 8 = .ok (.iconst 1, 1) := by decide +kernel
theorem dX12_isCell_9 : decode cX12_isCell 9 = .ok (.isub, 1) := by decide +kernel
theorem dX12_isCell_10 : decode cX12_isCell 10 = .ok (.invokestatic 73, 3) := by decide +kernel
theorem dX12_isCell_13 : decode cX12_isCell 13 = .ok (.ireturn, 1) := by decide +kernel
theorem dX12_isMobile_0 : decode cX12_isMobile 0 = .ok (.iload_n 1, 1) := by decide +kernel
theorem dX12_isMobile_1 : decode cX12_isMobile 1 = .ok (.iconst 0, 1) := by decide +kernel
theorem dX12_isMobile_2 : decode cX12_isMobile 2 = .ok (.aload_n 0, 1) := by decide +kernel
theorem dX12_isMobile_3 : decode cX12_isMobile 3 = .ok (.getfield 9, 3) := by decide +kernel
theorem dX12_isMobile_6 : decode cX12_isMobile 6 = .ok (.iconst 2, 1) := by decide +kernel
theorem dX12_isMobile_7 : decode cX12_isMobile 7 = .ok (.iaload, 1) := by decide +kernel
theorem dX12_isMobile_8 : decode cX12_isMobile 8 = .ok (.iconst 1, 1) := by decide +kernel
theorem dX12_isMobile_9 : decode cX12_isMobile 9 = .ok (.isub, 1) := by decide +kernel
theorem dX12_isMobile_10 : decode cX12_isMobile 10 = .ok (.invokestatic 73, 3) := by decide +kernel
theorem dX12_isMobile_13 : decode cX12_isMobile 13 = .ok (.ireturn, 1) := by decide +kernel
theorem dX12_talks_0 : decode cX12_talks 0 = .ok (.aload_n 0, 1) := by decide +kernel
theorem dX12_talks_1 : decode cX12_talks 1 = .ok (.iload_n 1, 1) := by decide +kernel
theorem dX12_talks_2 : decode cX12_talks 2 = .ok (.iconst 4, 1) := by decide +kernel
theorem dX12_talks_3 : decode cX12_talks 3 = .ok (.invokevirtual 77, 3) := by decide +kernel
theorem dX12_talks_6 : decode cX12_talks 6 = .ok (.iconst 1, 1) := by decide +kernel
theorem dX12_talks_7 : decode cX12_talks 7 = .ok (.if_icmp .ne 7, 3) := by decide +kernel
theorem dX12_talks_10 : decode cX12_talks 10 = .ok (.iconst 1, 1) := by decide +kernel
theorem dX12_talks_11 : decode cX12_talks 11 = .ok (.goto 4, 3) := by decide +kernel
theorem dX12_talks_14 : decode cX12_talks 14 = .ok (.iconst 0, 1) := by decide +kernel
theorem dX12_talks_15 : decode cX12_talks 15 = .ok (.ireturn, 1) := by decide +kernel
theorem dX12_hasRequest_0 : decode cX12_hasRequest 0 = .ok (.aload_n 0, 1) := by decide +kernel
theorem dX12_hasRequest_1 : decode cX12_hasRequest 1 = .ok (.iload_n 1, 1) := by decide +kernel
theorem dX12_hasRequest_2 : decode cX12_hasRequest 2 = .ok (.bipush 8, 2) := by decide +kernel
theorem dX12_hasRequest_4 : decode cX12_hasRequest 4 = .ok (.invokevirtual 77, 3) := by decide +kernel
theorem dX12_hasRequest_7 : decode cX12_hasRequest 7 = .ok (.iconst (-1), 1) := by decide +kernel
theorem dX12_hasRequest_8 : decode cX12_hasRequest 8 = .ok (.if_icmp .eq 7, 3) := by decide +kernel
theorem dX12_hasRequest_11 : decode cX12_hasRequest 11 = .ok (.iconst 1, 1) := by decide +kernel
theorem dX12_hasRequest_12 : decode cX12_hasRequest 12 = .ok (.goto 4, 3) := by decide +kernel
theorem dX12_hasRequest_15 : decode cX12_hasRequest 15 = .ok (.iconst 0, 1) := by decide +kernel
theorem dX12_hasRequest_16 : decode cX12_hasRequest 16 = .ok (.ireturn, 1) := by decide +kernel
theorem dX12_relationOf_0 : decode cX12_relationOf 0 = .ok (.iconst 0, 1) := by decide +kernel
theorem dX12_relationOf_1 : decode cX12_relationOf 1 = .ok (.istore 4, 2) := by decide +kernel
theorem dX12_relationOf_3 : decode cX12_relationOf 3 = .ok (.iload 4, 2) := by decide +kernel
theorem dX12_relationOf_5 : decode cX12_relationOf 5 = .ok (.aload_n 1, 1) := by decide +kernel
theorem dX12_relationOf_6 : decode cX12_relationOf 6 = .ok (.iconst 1, 1) := by decide +kernel
theorem dX12_relationOf_7 : decode cX12_relationOf 7 = .ok (.iaload, 1) := by decide +kernel
theorem dX12_relationOf_8 : decode cX12_relationOf 8 = .ok (.if_icmp .ge 41, 3) := by decide +kernel
theorem dX12_relationOf_11 : decode cX12_relationOf 11 = .ok (.bipush 90, 2) := by decide +kernel
theorem dX12_relationOf_13 : decode cX12_relationOf 13 = .ok (.iconst 5, 1) := by decide +kernel
theorem dX12_relationOf_14 : decode cX12_relationOf 14 = .ok (.iload 4, 2) := by decide +kernel
theorem dX12_relationOf_16 : decode cX12_relationOf 16 = .ok (.imul, 1) := by decide +kernel
theorem dX12_relationOf_17 : decode cX12_relationOf 17 = .ok (.iadd, 1) := by decide +kernel
theorem dX12_relationOf_18 : decode cX12_relationOf 18 = .ok (.istore 5, 2) := by decide +kernel
theorem dX12_relationOf_20 : decode cX12_relationOf 20 = .ok (.aload_n 1, 1) := by decide +kernel
theorem dX12_relationOf_21 : decode cX12_relationOf 21 = .ok (.iload 5, 2) := by decide +kernel
theorem dX12_relationOf_23 : decode cX12_relationOf 23 = .ok (.iconst 0, 1) := by decide +kernel
theorem dX12_relationOf_24 : decode cX12_relationOf 24 = .ok (.iadd, 1) := by decide +kernel
theorem dX12_relationOf_25 : decode cX12_relationOf 25 = .ok (.iaload, 1) := by decide +kernel
theorem dX12_relationOf_26 : decode cX12_relationOf 26 = .ok (.iload_n 2, 1) := by decide +kernel
theorem dX12_relationOf_27 : decode cX12_relationOf 27 = .ok (.if_icmp .ne 16, 3) := by decide +kernel
theorem dX12_relationOf_30 : decode cX12_relationOf 30 = .ok (.aload_n 1, 1) := by decide +kernel
theorem dX12_relationOf_31 : decode cX12_relationOf 31 = .ok (.iload 5, 2) := by decide +kernel
theorem dX12_relationOf_33 : decode cX12_relationOf 33 = .ok (.iconst 1, 1) := by decide +kernel
theorem dX12_relationOf_34 : decode cX12_relationOf 34 = .ok (.iadd, 1) := by decide +kernel
theorem dX12_relationOf_35 : decode cX12_relationOf 35 = .ok (.iaload, 1) := by decide +kernel
theorem dX12_relationOf_36 : decode cX12_relationOf 36 = .ok (.iload_n 3, 1) := by decide +kernel
theorem dX12_relationOf_37 : decode cX12_relationOf 37 = .ok (.if_icmp .ne 6, 3) := by decide +kernel
theorem dX12_relationOf_40 : decode cX12_relationOf 40 = .ok (.iload 4, 2) := by decide +kernel
theorem dX12_relationOf_42 : decode cX12_relationOf 42 = .ok (.ireturn, 1) := by decide +kernel
theorem dX12_relationOf_43 : decode cX12_relationOf 43 = .ok (.iinc 4 1, 3) := by decide +kernel
theorem dX12_relationOf_46 : decode cX12_relationOf 46 = .ok (.goto (-43), 3) := by decide +kernel
theorem dX12_relationOf_49 : decode cX12_relationOf 49 = .ok (.iconst (-1), 1) := by decide +kernel
theorem dX12_relationOf_50 : decode cX12_relationOf 50 = .ok (.ireturn, 1) := by decide +kernel
theorem dX12_isNeighbour_0 : decode cX12_isNeighbour 0 = .ok (.aload_n 0, 1) := by decide +kernel
theorem dX12_isNeighbour_1 : decode cX12_isNeighbour 1 = .ok (.aload_n 0, 1) := by decide +kernel
theorem dX12_isNeighbour_2 : decode cX12_isNeighbour 2 = .ok (.getfield 9, 3) := by decide +kernel
theorem dX12_isNeighbour_5 : decode cX12_isNeighbour 5 = .ok (.iload_n 1, 1) := by decide +kernel
theorem dX12_isNeighbour_6 : decode cX12_isNeighbour 6 = .ok (.iload_n 2, 1) := by decide +kernel
theorem dX12_isNeighbour_7 : decode cX12_isNeighbour 7 = .ok (.invokevirtual 81, 3) := by decide +kernel
theorem dX12_isNeighbour_10 : decode cX12_isNeighbour 10 = .ok (.iconst (-1), 1) := by decide +kernel
theorem dX12_isNeighbour_11 : decode cX12_isNeighbour 11 = .ok (.if_icmp .eq 7, 3) := by decide +kernel
theorem dX12_isNeighbour_14 : decode cX12_isNeighbour 14 = .ok (.iconst 1, 1) := by decide +kernel
theorem dX12_isNeighbour_15 : decode cX12_isNeighbour 15 = .ok (.goto 4, 3) := by decide +kernel
theorem dX12_isNeighbour_18 : decode cX12_isNeighbour 18 = .ok (.iconst 0, 1) := by decide +kernel
theorem dX12_isNeighbour_19 : decode cX12_isNeighbour 19 = .ok (.ireturn, 1) := by decide +kernel
theorem dX12_levelAt_0 : decode cX12_levelAt 0 = .ok (.aload_n 0, 1) := by decide +kernel
theorem dX12_levelAt_1 : decode cX12_levelAt 1 = .ok (.iload_n 1, 1) := by decide +kernel
theorem dX12_levelAt_2 : decode cX12_levelAt 2 = .ok (.iconst 0, 1) := by decide +kernel
theorem dX12_levelAt_3 : decode cX12_levelAt 3 = .ok (.invokevirtual 85, 3) := by decide +kernel
theorem dX12_levelAt_6 : decode cX12_levelAt 6 = .ok (.iload_n 2, 1) := by decide +kernel
theorem dX12_levelAt_7 : decode cX12_levelAt 7 = .ok (.isub, 1) := by decide +kernel
theorem dX12_levelAt_8 : decode cX12_levelAt 8 = .ok (.invokestatic 88, 3) := by decide +kernel
theorem dX12_levelAt_11 : decode cX12_levelAt 11 = .ok (.aload_n 0, 1) := by decide +kernel
theorem dX12_levelAt_12 : decode cX12_levelAt 12 = .ok (.iload_n 1, 1) := by decide +kernel
theorem dX12_levelAt_13 : decode cX12_levelAt 13 = .ok (.iconst 1, 1) := by decide +kernel
theorem dX12_levelAt_14 : decode cX12_levelAt 14 = .ok (.invokevirtual 85, 3) := by decide +kernel
theorem dX12_levelAt_17 : decode cX12_levelAt 17 = .ok (.iload_n 3, 1) := by decide +kernel
theorem dX12_levelAt_18 : decode cX12_levelAt 18 = .ok (.isub, 1) := by decide +kernel
theorem dX12_levelAt_19 : decode cX12_levelAt 19 = .ok (.invokestatic 88, 3) := by decide +kernel
theorem dX12_levelAt_22 : decode cX12_levelAt 22 = .ok (.iadd, 1) := by decide +kernel
theorem dX12_levelAt_23 : decode cX12_levelAt 23 = .ok (.istore 4, 2) := by decide +kernel
theorem dX12_levelAt_25 : decode cX12_levelAt 25 = .ok (.iconst 0, 1) := by decide +kernel
theorem dX12_levelAt_26 : decode cX12_levelAt 26 = .ok (.aload_n 0, 1) := by decide +kernel
theorem dX12_levelAt_27 : decode cX12_levelAt 27 = .ok (.iload_n 1, 1) := by decide +kernel
theorem dX12_levelAt_28 : decode cX12_levelAt 28 = .ok (.iconst 2, 1) := by decide +kernel
theorem dX12_levelAt_29 : decode cX12_levelAt 29 = .ok (.invokevirtual 85, 3) := by decide +kernel
theorem dX12_levelAt_32 : decode cX12_levelAt 32 = .ok (.aload_n 0, 1) := by decide +kernel
theorem dX12_levelAt_33 : decode cX12_levelAt 33 = .ok (.iload_n 1, 1) := by decide +kernel
theorem dX12_levelAt_34 : decode cX12_levelAt 34 = .ok (.iconst 3, 1) := by decide +kernel
theorem dX12_levelAt_35 : decode cX12_levelAt 35 = .ok (.invokevirtual 85, 3) := by decide +kernel
theorem dX12_levelAt_38 : decode cX12_levelAt 38 = .ok (.iload 4, 2) := by decide +kernel
theorem dX12_levelAt_40 : decode cX12_levelAt 40 = .ok (.imul, 1) := by decide +kernel
theorem dX12_levelAt_41 : decode cX12_levelAt 41 = .ok (.bipush 100, 2) := by decide +kernel
theorem dX12_levelAt_43 : decode cX12_levelAt 43 = .ok (.idiv, 1) := by decide +kernel
theorem dX12_levelAt_44 : decode cX12_levelAt 44 = .ok (.isub, 1) := by decide +kernel
theorem dX12_levelAt_45 : decode cX12_levelAt 45 = .ok (.invokestatic 94, 3) := by decide +kernel
theorem dX12_levelAt_48 : decode cX12_levelAt 48 = .ok (.ireturn, 1) := by decide +kernel
theorem dX12_levelFor_0 : decode cX12_levelFor 0 = .ok (.aload_n 0, 1) := by decide +kernel
theorem dX12_levelFor_1 : decode cX12_levelFor 1 = .ok (.iload_n 1, 1) := by decide +kernel
theorem dX12_levelFor_2 : decode cX12_levelFor 2 = .ok (.aload_n 0, 1) := by decide +kernel
theorem dX12_levelFor_3 : decode cX12_levelFor 3 = .ok (.iload_n 2, 1) := by decide +kernel
theorem dX12_levelFor_4 : decode cX12_levelFor 4 = .ok (.iconst 0, 1) := by decide +kernel
theorem dX12_levelFor_5 : decode cX12_levelFor 5 = .ok (.invokevirtual 77, 3) := by decide +kernel
theorem dX12_levelFor_8 : decode cX12_levelFor 8 = .ok (.aload_n 0, 1) := by decide +kernel
theorem dX12_levelFor_9 : decode cX12_levelFor 9 = .ok (.iload_n 2, 1) := by decide +kernel
theorem dX12_levelFor_10 : decode cX12_levelFor 10 = .ok (.iconst 1, 1) := by decide +kernel
theorem dX12_levelFor_11 : decode cX12_levelFor 11 = .ok (.invokevirtual 77, 3) := by decide +kernel
theorem dX12_levelFor_14 : decode cX12_levelFor 14 = .ok (.invokevirtual 97, 3) := by decide +kernel
theorem dX12_levelFor_17 : decode cX12_levelFor 17 = .ok (.ireturn, 1) := by decide +kernel
theorem dX12_strongest_0 : decode cX12_strongest 0 = .ok (.iconst (-1), 1) := by decide +kernel
theorem dX12_strongest_1 : decode cX12_strongest 1 = .ok (.istore_n 3, 1) := by decide +kernel
theorem dX12_strongest_2 : decode cX12_strongest 2 = .ok (.iconst 0, 1) := by decide +kernel
theorem dX12_strongest_3 : decode cX12_strongest 3 = .ok (.istore 4, 2) := by decide +kernel
theorem dX12_strongest_5 : decode cX12_strongest 5 = .ok (.iload 4, 2) := by decide +kernel
theorem dX12_strongest_7 : decode cX12_strongest 7 = .ok (.aload_n 0, 1) := by decide +kernel
theorem dX12_strongest_8 : decode cX12_strongest 8 = .ok (.getfield 9, 3) := by decide +kernel
theorem dX12_strongest_11 : decode cX12_strongest 11 = .ok (.iconst 0, 1) := by decide +kernel
theorem dX12_strongest_12 : decode cX12_strongest 12 = .ok (.iaload, 1) := by decide +kernel
theorem dX12_strongest_13 : decode cX12_strongest 13 = .ok (.if_icmp .ge 35, 3) := by decide +kernel
theorem dX12_strongest_16 : decode cX12_strongest 16 = .ok (.iload_n 3, 1) := by decide +kernel
theorem dX12_strongest_17 : decode cX12_strongest 17 = .ok (.iconst (-1), 1) := by decide +kernel
theorem dX12_strongest_18 : decode cX12_strongest 18 = .ok (.if_icmp .eq 21, 3) := by decide +kernel
theorem dX12_strongest_21 : decode cX12_strongest 21 = .ok (.aload_n 0, 1) := by decide +kernel
theorem dX12_strongest_22 : decode cX12_strongest 22 = .ok (.iload 4, 2) := by decide +kernel
theorem dX12_strongest_24 : decode cX12_strongest 24 = .ok (.iload_n 1, 1) := by decide +kernel
theorem dX12_strongest_25 : decode cX12_strongest 25 = .ok (.iload_n 2, 1) := by decide +kernel
theorem dX12_strongest_26 : decode cX12_strongest 26 = .ok (.invokevirtual 97, 3) := by decide +kernel
theorem dX12_strongest_29 : decode cX12_strongest 29 = .ok (.aload_n 0, 1) := by decide +kernel
theorem dX12_strongest_30 : decode cX12_strongest 30 = .ok (.iload_n 3, 1) := by decide +kernel
theorem dX12_strongest_31 : decode cX12_strongest 31 = .ok (.iload_n 1, 1) := by decide +kernel
theorem dX12_strongest_32 : decode cX12_strongest 32 = .ok (.iload_n 2, 1) := by decide +kernel
theorem dX12_strongest_33 : decode cX12_strongest 33 = .ok (.invokevirtual 97, 3) := by decide +kernel
theorem dX12_strongest_36 : decode cX12_strongest 36 = .ok (.if_icmp .le 6, 3) := by decide +kernel
theorem dX12_strongest_39 : decode cX12_strongest 39 = .ok (.iload 4, 2) := by decide +kernel
theorem dX12_strongest_41 : decode cX12_strongest 41 = .ok (.istore_n 3, 1) := by decide +kernel
theorem dX12_strongest_42 : decode cX12_strongest 42 = .ok (.iinc 4 1, 3) := by decide +kernel
theorem dX12_strongest_45 : decode cX12_strongest 45 = .ok (.goto (-40), 3) := by decide +kernel
theorem dX12_strongest_48 : decode cX12_strongest 48 = .ok (.iload_n 3, 1) := by decide +kernel
theorem dX12_strongest_49 : decode cX12_strongest 49 = .ok (.ireturn, 1) := by decide +kernel
theorem dX12_covering_0 : decode cX12_covering 0 = .ok (.aload_n 0, 1) := by decide +kernel
theorem dX12_covering_1 : decode cX12_covering 1 = .ok (.iload_n 1, 1) := by decide +kernel
theorem dX12_covering_2 : decode cX12_covering 2 = .ok (.iload_n 2, 1) := by decide +kernel
theorem dX12_covering_3 : decode cX12_covering 3 = .ok (.invokevirtual 101, 3) := by decide +kernel
theorem dX12_covering_6 : decode cX12_covering 6 = .ok (.istore_n 3, 1) := by decide +kernel
theorem dX12_covering_7 : decode cX12_covering 7 = .ok (.iload_n 3, 1) := by decide +kernel
theorem dX12_covering_8 : decode cX12_covering 8 = .ok (.iconst (-1), 1) := by decide +kernel
theorem dX12_covering_9 : decode cX12_covering 9 = .ok (.if_icmp .eq 24, 3) := by decide +kernel
theorem dX12_covering_12 : decode cX12_covering 12 = .ok (.aload_n 0, 1) := by decide +kernel
theorem dX12_covering_13 : decode cX12_covering 13 = .ok (.iload_n 3, 1) := by decide +kernel
theorem dX12_covering_14 : decode cX12_covering 14 = .ok (.iload_n 1, 1) := by decide +kernel
theorem dX12_covering_15 : decode cX12_covering 15 = .ok (.iload_n 2, 1) := by decide +kernel
theorem dX12_covering_16 : decode cX12_covering 16 = .ok (.invokevirtual 97, 3) := by decide +kernel
theorem dX12_covering_19 : decode cX12_covering 19 = .ok (.aload_n 0, 1) := by decide +kernel
theorem dX12_covering_20 : decode cX12_covering 20 = .ok (.iload_n 3, 1) := by decide +kernel
theorem dX12_covering_21 : decode cX12_covering 21 = .ok (.bipush 6, 2) := by decide +kernel
theorem dX12_covering_23 : decode cX12_covering 23 = .ok (.invokevirtual 85, 3) := by decide +kernel
theorem dX12_covering_26 : decode cX12_covering 26 = .ok (.if_icmp .lt 7, 3) := by decide +kernel
theorem dX12_covering_29 : decode cX12_covering 29 = .ok (.iload_n 3, 1) := by decide +kernel
theorem dX12_covering_30 : decode cX12_covering 30 = .ok (.goto 4, 3) := by decide +kernel
theorem dX12_covering_33 : decode cX12_covering 33 = .ok (.iconst (-1), 1) := by decide +kernel
theorem dX12_covering_34 : decode cX12_covering 34 = .ok (.ireturn, 1) := by decide +kernel
theorem dX12_isCoordinate_0 : decode cX12_isCoordinate 0 = .ok (.iload_n 0, 1) := by decide +kernel
theorem dX12_isCoordinate_1 : decode cX12_isCoordinate 1 = .ok (.iconst 0, 1) := by decide +kernel
theorem dX12_isCoordinate_2 : decode cX12_isCoordinate 2 = .ok (.sipush 999, 3) := by decide +kernel
theorem dX12_isCoordinate_5 : decode cX12_isCoordinate 5 = .ok (.invokestatic 73, 3) := by decide +kernel
theorem dX12_isCoordinate_8 : decode cX12_isCoordinate 8 = .ok (.ireturn, 1) := by decide +kernel
theorem dX12_level_0 : decode cX12_level 0 = .ok (.aload_n 0, 1) := by decide +kernel
theorem dX12_level_1 : decode cX12_level 1 = .ok (.iconst 0, 1) := by decide +kernel
theorem dX12_level_2 : decode cX12_level 2 = .ok (.putfield 70, 3) := by decide +kernel
theorem dX12_level_5 : decode cX12_level 5 = .ok (.aload_n 0, 1) := by decide +kernel
theorem dX12_level_6 : decode cX12_level 6 = .ok (.iload_n 1, 1) := by decide +kernel
theorem dX12_level_7 : decode cX12_level 7 = .ok (.invokevirtual 104, 3) := by decide +kernel
theorem dX12_level_10 : decode cX12_level 10 = .ok (.ifCond .ne 9, 3) := by decide +kernel
theorem dX12_level_13 : decode cX12_level 13 = .ok (.aload_n 0, 1) := by decide +kernel
theorem dX12_level_14 : decode cX12_level 14 = .ok (.iconst 1, 1) := by decide +kernel
theorem dX12_level_15 : decode cX12_level 15 = .ok (.invokevirtual 108, 3) := by decide +kernel
theorem dX12_level_18 : decode cX12_level 18 = .ok (.ireturn, 1) := by decide +kernel
theorem dX12_level_19 : decode cX12_level 19 = .ok (.iload_n 2, 1) := by decide +kernel
theorem dX12_level_20 : decode cX12_level 20 = .ok (.invokestatic 111, 3) := by decide +kernel
theorem dX12_level_23 : decode cX12_level 23 = .ok (.ifCond .eq 10, 3) := by decide +kernel
theorem dX12_level_26 : decode cX12_level 26 = .ok (.iload_n 3, 1) := by decide +kernel
theorem dX12_level_27 : decode cX12_level 27 = .ok (.invokestatic 111, 3) := by decide +kernel
theorem dX12_level_30 : decode cX12_level 30 = .ok (.ifCond .ne 9, 3) := by decide +kernel
theorem dX12_level_33 : decode cX12_level 33 = .ok (.aload_n 0, 1) := by decide +kernel
theorem dX12_level_34 : decode cX12_level 34 = .ok (.iconst 2, 1) := by decide +kernel
theorem dX12_level_35 : decode cX12_level 35 = .ok (.invokevirtual 108, 3) := by decide +kernel
theorem dX12_level_38 : decode cX12_level 38 = .ok (.ireturn, 1) := by decide +kernel
theorem dX12_level_39 : decode cX12_level 39 = .ok (.aload_n 0, 1) := by decide +kernel
theorem dX12_level_40 : decode cX12_level 40 = .ok (.iload_n 1, 1) := by decide +kernel
theorem dX12_level_41 : decode cX12_level 41 = .ok (.iload_n 2, 1) := by decide +kernel
theorem dX12_level_42 : decode cX12_level 42 = .ok (.iload_n 3, 1) := by decide +kernel
theorem dX12_level_43 : decode cX12_level 43 = .ok (.invokevirtual 97, 3) := by decide +kernel
theorem dX12_level_46 : decode cX12_level 46 = .ok (.ireturn, 1) := by decide +kernel
theorem dX12_strongestCell_0 : decode cX12_strongestCell 0 = .ok (.aload_n 0, 1) := by decide +kernel
theorem dX12_strongestCell_1 : decode cX12_strongestCell 1 = .ok (.iconst 0, 1) := by decide +kernel
theorem dX12_strongestCell_2 : decode cX12_strongestCell 2 = .ok (.putfield 70, 3) := by decide +kernel
theorem dX12_strongestCell_5 : decode cX12_strongestCell 5 = .ok (.iload_n 1, 1) := by decide +kernel
theorem dX12_strongestCell_6 : decode cX12_strongestCell 6 = .ok (.invokestatic 111, 3) := by decide +kernel
theorem dX12_strongestCell_9 : decode cX12_strongestCell 9 = .ok (.ifCond .eq 10, 3) := by decide +kernel
theorem dX12_strongestCell_12 : decode cX12_strongestCell 12 = .ok (.iload_n 2, 1) := by decide +kernel
theorem dX12_strongestCell_13 : decode cX12_strongestCell 13 = .ok (.invokestatic 111, 3) := by decide +kernel
theorem dX12_strongestCell_16 : decode cX12_strongestCell 16 = .ok (.ifCond .ne 9, 3) := by decide +kernel
theorem dX12_strongestCell_19 : decode cX12_strongestCell 19 = .ok (.aload_n 0, 1) := by decide +kernel
theorem dX12_strongestCell_20 : decode cX12_strongestCell 20 = .ok (.iconst 1, 1) := by decide +kernel
theorem dX12_strongestCell_21 : decode cX12_strongestCell 21 = .ok (.invokevirtual 108, 3) := by decide +kernel
theorem dX12_strongestCell_24 : decode cX12_strongestCell 24 = .ok (.ireturn, 1) := by decide +kernel
theorem dX12_strongestCell_25 : decode cX12_strongestCell 25 = .ok (.aload_n 0, 1) := by decide +kernel
theorem dX12_strongestCell_26 : decode cX12_strongestCell 26 = .ok (.iload_n 1, 1) := by decide +kernel
theorem dX12_strongestCell_27 : decode cX12_strongestCell 27 = .ok (.iload_n 2, 1) := by decide +kernel
theorem dX12_strongestCell_28 : decode cX12_strongestCell 28 = .ok (.invokevirtual 114, 3) := by decide +kernel
theorem dX12_strongestCell_31 : decode cX12_strongestCell 31 = .ok (.ireturn, 1) := by decide +kernel
theorem dX12_coverage_0 : decode cX12_coverage 0 = .ok (.aload_n 0, 1) := by decide +kernel
theorem dX12_coverage_1 : decode cX12_coverage 1 = .ok (.iconst 0, 1) := by decide +kernel
theorem dX12_coverage_2 : decode cX12_coverage 2 = .ok (.putfield 70, 3) := by decide +kernel
theorem dX12_coverage_5 : decode cX12_coverage 5 = .ok (.aload_n 0, 1) := by decide +kernel
theorem dX12_coverage_6 : decode cX12_coverage 6 = .ok (.iload_n 1, 1) := by decide +kernel
theorem dX12_coverage_7 : decode cX12_coverage 7 = .ok (.invokevirtual 104, 3) := by decide +kernel
theorem dX12_coverage_10 : decode cX12_coverage 10 = .ok (.ifCond .ne 9, 3) := by decide +kernel
theorem dX12_coverage_13 : decode cX12_coverage 13 = .ok (.aload_n 0, 1) := by decide +kernel
theorem dX12_coverage_14 : decode cX12_coverage 14 = .ok (.iconst 1, 1) := by decide +kernel
theorem dX12_coverage_15 : decode cX12_coverage 15 = .ok (.invokevirtual 108, 3) := by decide +kernel
theorem dX12_coverage_18 : decode cX12_coverage 18 = .ok (.ireturn, 1) := by decide +kernel
theorem dX12_coverage_19 : decode cX12_coverage 19 = .ok (.iconst 0, 1) := by decide +kernel
theorem dX12_coverage_20 : decode cX12_coverage 20 = .ok (.istore_n 2, 1) := by decide +kernel
theorem dX12_coverage_21 : decode cX12_coverage 21 = .ok (.iconst 0, 1) := by decide +kernel
theorem dX12_coverage_22 : decode cX12_coverage 22 = .ok (.istore_n 3, 1) := by decide +kernel
theorem dX12_coverage_23 : decode cX12_coverage 23 = .ok (.iload_n 3, 1) := by decide +kernel
theorem dX12_coverage_24 : decode cX12_coverage 24 = .ok (.sipush 999, 3) := by decide +kernel
theorem dX12_coverage_27 : decode cX12_coverage 27 = .ok (.if_icmp .gt 45, 3) := by decide +kernel
theorem dX12_coverage_30 : decode cX12_coverage 30 = .ok (.iconst 0, 1) := by decide +kernel
theorem dX12_coverage_31 : decode cX12_coverage 31 = .ok (.istore 4, 2) := by decide +kernel
theorem dX12_coverage_33 : decode cX12_coverage 33 = .ok (.iload 4, 2) := by decide +kernel
theorem dX12_coverage_35 : decode cX12_coverage 35 = .ok (.sipush 999, 3) := by decide +kernel
theorem dX12_coverage_38 : decode cX12_coverage 38 = .ok (.if_icmp .gt 28, 3) := by decide +kernel
theorem dX12_coverage_41 : decode cX12_coverage 41 = .ok (.iload_n 2, 1) := by decide +kernel
theorem dX12_coverage_42 : decode cX12_coverage 42 = .ok (.aload_n 0, 1) := by decide +kernel
theorem dX12_coverage_43 : decode cX12_coverage 43 = .ok (.iload_n 3, 1) := by decide +kernel
theorem dX12_coverage_44 : decode cX12_coverage 44 = .ok (.iload 4, 2) := by decide +kernel
theorem dX12_coverage_46 : decode cX12_coverage 46 = .ok (.invokevirtual 114, 3) := by decide +kernel
theorem dX12_coverage_49 : decode cX12_coverage 49 = .ok (.iload_n 1, 1) := by decide +kernel
theorem dX12_coverage_50 : decode cX12_coverage 50 = .ok (.if_icmp .ne 7, 3) := by decide +kernel
theorem dX12_coverage_53 : decode cX12_coverage 53 = .ok (.iconst 1, 1) := by decide +kernel
theorem dX12_coverage_54 : decode cX12_coverage 54 = .ok (.goto 4, 3) := by decide +kernel
theorem dX12_coverage_57 : decode cX12_coverage 57 = .ok (.iconst 0, 1) := by decide +kernel
theorem dX12_coverage_58 : decode cX12_coverage 58 = .ok (.iadd, 1) := by decide +kernel
theorem dX12_coverage_59 : decode cX12_coverage 59 = .ok (.istore_n 2, 1) := by decide +kernel
theorem dX12_coverage_60 : decode cX12_coverage 60 = .ok (.iinc 4 37, 3) := by decide +kernel
theorem dX12_coverage_63 : decode cX12_coverage 63 = .ok (.goto (-30), 3) := by decide +kernel
theorem dX12_coverage_66 : decode cX12_coverage 66 = .ok (.iinc 3 37, 3) := by decide +kernel
theorem dX12_coverage_69 : decode cX12_coverage 69 = .ok (.goto (-46), 3) := by decide +kernel
theorem dX12_coverage_72 : decode cX12_coverage 72 = .ok (.iload_n 2, 1) := by decide +kernel
theorem dX12_coverage_73 : decode cX12_coverage 73 = .ok (.ireturn, 1) := by decide +kernel
theorem dX12_isNear_0 : decode cX12_isNear 0 = .ok (.aload_n 0, 1) := by decide +kernel
theorem dX12_isNear_1 : decode cX12_isNear 1 = .ok (.iload_n 2, 1) := by decide +kernel
theorem dX12_isNear_2 : decode cX12_isNear 2 = .ok (.iload_n 3, 1) := by decide +kernel
theorem dX12_isNear_3 : decode cX12_isNear 3 = .ok (.iload 4, 2) := by decide +kernel
theorem dX12_isNear_5 : decode cX12_isNear 5 = .ok (.invokevirtual 97, 3) := by decide +kernel
theorem dX12_isNear_8 : decode cX12_isNear 8 = .ok (.istore 6, 2) := by decide +kernel
theorem dX12_isNear_10 : decode cX12_isNear 10 = .ok (.aload_n 0, 1) := by decide +kernel
theorem dX12_isNear_11 : decode cX12_isNear 11 = .ok (.iload_n 3, 1) := by decide +kernel
theorem dX12_isNear_12 : decode cX12_isNear 12 = .ok (.iload 4, 2) := by decide +kernel
theorem dX12_isNear_14 : decode cX12_isNear 14 = .ok (.invokevirtual 101, 3) := by decide +kernel
theorem dX12_isNear_17 : decode cX12_isNear 17 = .ok (.iload_n 1, 1) := by decide +kernel
theorem dX12_isNear_18 : decode cX12_isNear 18 = .ok (.if_icmp .ne 28, 3) := by decide +kernel
theorem dX12_isNear_21 : decode cX12_isNear 21 = .ok (.iload 6, 2) := by decide +kernel
theorem dX12_isNear_23 : decode cX12_isNear 23 = .ok (.ifCond .le 23, 3) := by decide +kernel
theorem dX12_isNear_26 : decode cX12_isNear 26 = .ok (.aload_n 0, 1) := by decide +kernel
theorem dX12_isNear_27 : decode cX12_isNear 27 = .ok (.iload_n 1, 1) := by decide +kernel
theorem dX12_isNear_28 : decode cX12_isNear 28 = .ok (.iload_n 3, 1) := by decide +kernel
theorem dX12_isNear_29 : decode cX12_isNear 29 = .ok (.iload 4, 2) := by decide +kernel
theorem dX12_isNear_31 : decode cX12_isNear 31 = .ok (.invokevirtual 97, 3) := by decide +kernel
theorem dX12_isNear_34 : decode cX12_isNear 34 = .ok (.iload 6, 2) := by decide +kernel
theorem dX12_isNear_36 : decode cX12_isNear 36 = .ok (.isub, 1) := by decide +kernel
theorem dX12_isNear_37 : decode cX12_isNear 37 = .ok (.iload 5, 2) := by decide +kernel
theorem dX12_isNear_39 : decode cX12_isNear 39 = .ok (.if_icmp .gt 7, 3) := by decide +kernel
theorem dX12_isNear_42 : decode cX12_isNear 42 = .ok (.iconst 1, 1) := by decide +kernel
theorem dX12_isNear_43 : decode cX12_isNear 43 = .ok (.goto 4, 3) := by decide +kernel
theorem dX12_isNear_46 : decode cX12_isNear 46 = .ok (.iconst 0, 1) := by decide +kernel
theorem dX12_isNear_47 : decode cX12_isNear 47 = .ok (.ireturn, 1) := by decide +kernel
theorem dX12_isMissing_0 : decode cX12_isMissing 0 = .ok (.iconst 0, 1) := by decide +kernel
theorem dX12_isMissing_1 : decode cX12_isMissing 1 = .ok (.istore 4, 2) := by decide +kernel
theorem dX12_isMissing_3 : decode cX12_isMissing 3 = .ok (.iconst 0, 1) := by decide +kernel
theorem dX12_isMissing_4 : decode cX12_isMissing 4 = .ok (.istore 5, 2) := by decide +kernel
theorem dX12_isMissing_6 : decode cX12_isMissing 6 = .ok (.iload 5, 2) := by decide +kernel
theorem dX12_isMissing_8 : decode cX12_isMissing 8 = .ok (.sipush 999, 3) := by decide +kernel
theorem dX12_isMissing_11 : decode cX12_isMissing 11 = .ok (.if_icmp .gt 50, 3) := by decide +kernel
theorem dX12_isMissing_14 : decode cX12_isMissing 14 = .ok (.iconst 0, 1) := by decide +kernel
theorem dX12_isMissing_15 : decode cX12_isMissing 15 = .ok (.istore 6, 2) := by decide +kernel
theorem dX12_isMissing_17 : decode cX12_isMissing 17 = .ok (.iload 6, 2) := by decide +kernel
theorem dX12_isMissing_19 : decode cX12_isMissing 19 = .ok (.sipush 999, 3) := by decide +kernel
theorem dX12_isMissing_22 : decode cX12_isMissing 22 = .ok (.if_icmp .gt 33, 3) := by decide +kernel
theorem dX12_isMissing_25 : decode cX12_isMissing 25 = .ok (.iload 4, 2) := by decide +kernel
theorem dX12_isMissing_27 : decode cX12_isMissing 27 = .ok (.aload_n 0, 1) := by decide +kernel
theorem dX12_isMissing_28 : decode cX12_isMissing 28 = .ok (.iload_n 1, 1) := by decide +kernel
theorem dX12_isMissing_29 : decode cX12_isMissing 29 = .ok (.iload_n 2, 1) := by decide +kernel
theorem dX12_isMissing_30 : decode cX12_isMissing 30 = .ok (.iload 5, 2) := by decide +kernel
theorem dX12_isMissing_32 : decode cX12_isMissing 32 = .ok (.iload 6, 2) := by decide +kernel
theorem dX12_isMissing_34 : decode cX12_isMissing 34 = .ok (.iload_n 3, 1) := by decide +kernel
theorem dX12_isMissing_35 : decode cX12_isMissing 35 = .ok (.invokevirtual 117, 3) := by decide +kernel
theorem dX12_isMissing_38 : decode cX12_isMissing 38 = .ok (.ifCond .eq 7, 3) := by decide +kernel
theorem dX12_isMissing_41 : decode cX12_isMissing 41 = .ok (.iconst 1, 1) := by decide +kernel
theorem dX12_isMissing_42 : decode cX12_isMissing 42 = .ok (.goto 4, 3) := by decide +kernel
theorem dX12_isMissing_45 : decode cX12_isMissing 45 = .ok (.iconst 0, 1) := by decide +kernel
theorem dX12_isMissing_46 : decode cX12_isMissing 46 = .ok (.iadd, 1) := by decide +kernel
theorem dX12_isMissing_47 : decode cX12_isMissing 47 = .ok (.istore 4, 2) := by decide +kernel
theorem dX12_isMissing_49 : decode cX12_isMissing 49 = .ok (.iinc 6 37, 3) := by decide +kernel
theorem dX12_isMissing_52 : decode cX12_isMissing 52 = .ok (.goto (-35), 3) := by decide +kernel
theorem dX12_isMissing_55 : decode cX12_isMissing 55 = .ok (.iinc 5 37, 3) := by decide +kernel
theorem dX12_isMissing_58 : decode cX12_isMissing 58 = .ok (.goto (-52), 3) := by decide +kernel
theorem dX12_isMissing_61 : decode cX12_isMissing 61 = .ok (.iload 4, 2) := by decide +kernel
theorem dX12_isMissing_63 : decode cX12_isMissing 63 = .ok (.iconst 3, 1) := by decide +kernel
theorem dX12_isMissing_64 : decode cX12_isMissing 64 = .ok (.if_icmp .lt 7, 3) := by decide +kernel
theorem dX12_isMissing_67 : decode cX12_isMissing 67 = .ok (.iconst 1, 1) := by decide +kernel
theorem dX12_isMissing_68 : decode cX12_isMissing 68 = .ok (.goto 4, 3) := by decide +kernel
theorem dX12_isMissing_71 : decode cX12_isMissing 71 = .ok (.iconst 0, 1) := by decide +kernel
theorem dX12_isMissing_72 : decode cX12_isMissing 72 = .ok (.ireturn, 1) := by decide +kernel
theorem dX12_missingRelation_0 : decode cX12_missingRelation 0 = .ok (.aload_n 0, 1) := by decide +kernel
theorem dX12_missingRelation_1 : decode cX12_missingRelation 1 = .ok (.iconst 0, 1) := by decide +kernel
theorem dX12_missingRelation_2 : decode cX12_missingRelation 2 = .ok (.putfield 70, 3) := by decide +kernel
theorem dX12_missingRelation_5 : decode cX12_missingRelation 5 = .ok (.iload_n 1, 1) := by decide +kernel
theorem dX12_missingRelation_6 : decode cX12_missingRelation 6 = .ok (.iconst 0, 1) := by decide +kernel
theorem dX12_missingRelation_7 : decode cX12_missingRelation 7 = .ok (.bipush 30, 2) := by decide +kernel
theorem dX12_missingRelation_9 : decode cX12_missingRelation 9 = .ok (.invokestatic 73, 3) := by decide +kernel
theorem dX12_missingRelation_12 : decode cX12_missingRelation 12 = .ok (.ifCond .ne 9, 3) := by decide +kernel
theorem dX12_missingRelation_15 : decode cX12_missingRelation 15 = .ok (.aload_n 0, 1) := by decide +kernel
theorem dX12_missingRelation_16 : decode cX12_missingRelation 16 = .ok (.iconst 1, 1) := by decide +kernel
theorem dX12_missingRelation_17 : decode cX12_missingRelation 17 = .ok (.invokevirtual 108, 3) := by decide +kernel
theorem dX12_missingRelation_20 : decode cX12_missingRelation 20 = .ok (.ireturn, 1) := by decide +kernel
theorem dX12_missingRelation_21 : decode cX12_missingRelation 21 = .ok (.iconst 0, 1) := by decide +kernel
theorem dX12_missingRelation_22 : decode cX12_missingRelation 22 = .ok (.istore_n 2, 1) := by decide +kernel
theorem dX12_missingRelation_23 : decode cX12_missingRelation 23 = .ok (.iload_n 2, 1) := by decide +kernel
theorem dX12_missingRelation_24 : decode cX12_missingRelation 24 = .ok (.aload_n 0, 1) := by decide +kernel
theorem dX12_missingRelation_25 : decode cX12_missingRelation 25 = .ok (.getfield 9, 3) := by decide +kernel
theorem dX12_missingRelation_28 : decode cX12_missingRelation 28 = .ok (.iconst 0, 1) := by decide +kernel
theorem dX12_missingRelation_29 : decode cX12_missingRelation 29 = .ok (.iaload, 1) := by decide +kernel
theorem dX12_missingRelation_30 : decode cX12_missingRelation 30 = .ok (.if_icmp .ge 58, 3) := by decide +kernel
theorem dX12_missingRelation_33 : decode cX12_missingRelation 33 = .ok (.iconst 0, 1) := by decide +kernel
theorem dX12_missingRelation_34 : decode cX12_missingRelation 34 = .ok (.istore_n 3, 1) := by decide +kernel
theorem dX12_missingRelation_35 : decode cX12_missingRelation 35 = .ok (.iload_n 3, 1) := by decide +kernel
theorem dX12_missingRelation_36 : decode cX12_missingRelation 36 = .ok (.aload_n 0, 1) := by decide +kernel
theorem dX12_missingRelation_37 : decode cX12_missingRelation 37 = .ok (.getfield 9, 3) := by decide +kernel
theorem dX12_missingRelation_40 : decode cX12_missingRelation 40 = .ok (.iconst 0, 1) := by decide +kernel
theorem dX12_missingRelation_41 : decode cX12_missingRelation 41 = .ok (.iaload, 1) := by decide +kernel
theorem dX12_missingRelation_42 : decode cX12_missingRelation 42 = .ok (.if_icmp .ge 40, 3) := by decide +kernel
theorem dX12_missingRelation_45 : decode cX12_missingRelation 45 = .ok (.iload_n 2, 1) := by decide +kernel
theorem dX12_missingRelation_46 : decode cX12_missingRelation 46 = .ok (.iload_n 3, 1) := by decide +kernel
theorem dX12_missingRelation_47 : decode cX12_missingRelation 47 = .ok (.if_icmp .eq 29, 3) := by decide +kernel
theorem dX12_missingRelation_50 : decode cX12_missingRelation 50 = .ok (.aload_n 0, 1) := by decide +kernel
theorem dX12_missingRelation_51 : decode cX12_missingRelation 51 = .ok (.iload_n 2, 1) := by decide +kernel
theorem dX12_missingRelation_52 : decode cX12_missingRelation 52 = .ok (.iload_n 3, 1) := by decide +kernel
theorem dX12_missingRelation_53 : decode cX12_missingRelation 53 = .ok (.invokevirtual 121, 3) := by decide +kernel
theorem dX12_missingRelation_56 : decode cX12_missingRelation 56 = .ok (.ifCond .ne 20, 3) := by decide +kernel
theorem dX12_missingRelation_59 : decode cX12_missingRelation 59 = .ok (.aload_n 0, 1) := by decide +kernel
theorem dX12_missingRelation_60 : decode cX12_missingRelation 60 = .ok (.iload_n 2, 1) := by decide +kernel
theorem dX12_missingRelation_61 : decode cX12_missingRelation 61 = .ok (.iload_n 3, 1) := by decide +kernel
theorem dX12_missingRelation_62 : decode cX12_missingRelation 62 = .ok (.iload_n 1, 1) := by decide +kernel
theorem dX12_missingRelation_63 : decode cX12_missingRelation 63 = .ok (.invokevirtual 125, 3) := by decide +kernel
theorem dX12_missingRelation_66 : decode cX12_missingRelation 66 = .ok (.ifCond .eq 10, 3) := by decide +kernel
theorem dX12_missingRelation_69 : decode cX12_missingRelation 69 = .ok (.bipush 8, 2) := by decide +kernel
theorem dX12_missingRelation_71 : decode cX12_missingRelation 71 = .ok (.iload_n 2, 1) := by decide +kernel
theorem dX12_missingRelation_72 : decode cX12_missingRelation 72 = .ok (.imul, 1) := by decide +kernel
theorem dX12_missingRelation_73 : decode cX12_missingRelation 73 = .ok (.iload_n 3, 1) := by decide +kernel
theorem dX12_missingRelation_74 : decode cX12_missingRelation 74 = .ok (.iadd, 1) := by decide +kernel
theorem dX12_missingRelation_75 : decode cX12_missingRelation 75 = .ok (.ireturn, 1) := by decide +kernel
theorem dX12_missingRelation_76 : decode cX12_missingRelation 76 = .ok (.iinc 3 1, 3) := by decide +kernel
theorem dX12_missingRelation_79 : decode cX12_missingRelation 79 = .ok (.goto (-44), 3) := by decide +kernel
theorem dX12_missingRelation_82 : decode cX12_missingRelation 82 = .ok (.iinc 2 1, 3) := by decide +kernel
theorem dX12_missingRelation_85 : decode cX12_missingRelation 85 = .ok (.goto (-62), 3) := by decide +kernel
theorem dX12_missingRelation_88 : decode cX12_missingRelation 88 = .ok (.iconst (-1), 1) := by decide +kernel
theorem dX12_missingRelation_89 : decode cX12_missingRelation 89 = .ok (.ireturn, 1) := by decide +kernel
theorem dX12_cellCount_0 : decode cX12_cellCount 0 = .ok (.aload_n 0, 1) := by decide +kernel
theorem dX12_cellCount_1 : decode cX12_cellCount 1 = .ok (.iconst 0, 1) := by decide +kernel
theorem dX12_cellCount_2 : decode cX12_cellCount 2 = .ok (.putfield 70, 3) := by decide +kernel
theorem dX12_cellCount_5 : decode cX12_cellCount 5 = .ok (.aload_n 0, 1) := by decide +kernel
theorem dX12_cellCount_6 : decode cX12_cellCount 6 = .ok (.getfield 9, 3) := by decide +kernel
theorem dX12_cellCount_9 : decode cX12_cellCount 9 = .ok (.iconst 0, 1) := by decide +kernel
theorem dX12_cellCount_10 : decode cX12_cellCount 10 = .ok (.iaload, 1) := by decide +kernel
theorem dX12_cellCount_11 : decode cX12_cellCount 11 = .ok (.ireturn, 1) := by decide +kernel
theorem dX12_relationCount_0 : decode cX12_relationCount 0 = .ok (.aload_n 0, 1) := by decide +kernel
theorem dX12_relationCount_1 : decode cX12_relationCount 1 = .ok (.iconst 0, 1) := by decide +kernel
theorem dX12_relationCount_2 : decode cX12_relationCount 2 = .ok (.putfield 70, 3) := by decide +kernel
theorem dX12_relationCount_5 : decode cX12_relationCount 5 = .ok (.aload_n 0, 1) := by decide +kernel
theorem dX12_relationCount_6 : decode cX12_relationCount 6 = .ok (.getfield 9, 3) := by decide +kernel
theorem dX12_relationCount_9 : decode cX12_relationCount 9 = .ok (.iconst 1, 1) := by decide +kernel
theorem dX12_relationCount_10 : decode cX12_relationCount 10 = .ok (.iaload, 1) := by decide +kernel
theorem dX12_relationCount_11 : decode cX12_relationCount 11 = .ok (.ireturn, 1) := by decide +kernel
theorem dX12_mobileCount_0 : decode cX12_mobileCount 0 = .ok (.aload_n 0, 1) := by decide +kernel
theorem dX12_mobileCount_1 : decode cX12_mobileCount 1 = .ok (.iconst 0, 1) := by decide +kernel
theorem dX12_mobileCount_2 : decode cX12_mobileCount 2 = .ok (.putfield 70, 3) := by decide +kernel
theorem dX12_mobileCount_5 : decode cX12_mobileCount 5 = .ok (.aload_n 0, 1) := by decide +kernel
theorem dX12_mobileCount_6 : decode cX12_mobileCount 6 = .ok (.getfield 9, 3) := by decide +kernel
theorem dX12_mobileCount_9 : decode cX12_mobileCount 9 = .ok (.iconst 2, 1) := by decide +kernel
theorem dX12_mobileCount_10 : decode cX12_mobileCount 10 = .ok (.iaload, 1) := by decide +kernel
theorem dX12_mobileCount_11 : decode cX12_mobileCount 11 = .ok (.ireturn, 1) := by decide +kernel
theorem dX12_clock_0 : decode cX12_clock 0 = .ok (.aload_n 0, 1) := by decide +kernel
theorem dX12_clock_1 : decode cX12_clock 1 = .ok (.iconst 0, 1) := by decide +kernel
theorem dX12_clock_2 : decode cX12_clock 2 = .ok (.putfield 70, 3) := by decide +kernel
theorem dX12_clock_5 : decode cX12_clock 5 = .ok (.aload_n 0, 1) := by decide +kernel
theorem dX12_clock_6 : decode cX12_clock 6 = .ok (.getfield 9, 3) := by decide +kernel
theorem dX12_clock_9 : decode cX12_clock 9 = .ok (.iconst 3, 1) := by decide +kernel
theorem dX12_clock_10 : decode cX12_clock 10 = .ok (.iaload, 1) := by decide +kernel
theorem dX12_clock_11 : decode cX12_clock 11 = .ok (.ireturn, 1) := by decide +kernel
theorem dX12_tellRelation_0 : decode cX12_tellRelation 0 = .ok (.aload_n 0, 1) := by decide +kernel
theorem dX12_tellRelation_1 : decode cX12_tellRelation 1 = .ok (.iconst 0, 1) := by decide +kernel
theorem dX12_tellRelation_2 : decode cX12_tellRelation 2 = .ok (.putfield 70, 3) := by decide +kernel
theorem dX12_tellRelation_5 : decode cX12_tellRelation 5 = .ok (.aload_n 0, 1) := by decide +kernel
theorem dX12_tellRelation_6 : decode cX12_tellRelation 6 = .ok (.iload_n 1, 1) := by decide +kernel
theorem dX12_tellRelation_7 : decode cX12_tellRelation 7 = .ok (.invokevirtual 104, 3) := by decide +kernel
theorem dX12_tellRelation_10 : decode cX12_tellRelation 10 = .ok (.ifCond .eq 11, 3) := by decide +kernel
theorem dX12_tellRelation_13 : decode cX12_tellRelation 13 = .ok (.aload_n 0, 1) := by decide +kernel
theorem dX12_tellRelation_14 : decode cX12_tellRelation 14 = .ok (.iload_n 2, 1) := by decide +kernel
theorem dX12_tellRelation_15 : decode cX12_tellRelation 15 = .ok (.invokevirtual 104, 3) := by decide +kernel
theorem dX12_tellRelation_18 : decode cX12_tellRelation 18 = .ok (.ifCond .ne 9, 3) := by decide +kernel
theorem dX12_tellRelation_21 : decode cX12_tellRelation 21 = .ok (.aload_n 0, 1) := by decide +kernel
theorem dX12_tellRelation_22 : decode cX12_tellRelation 22 = .ok (.iconst 1, 1) := by decide +kernel
theorem dX12_tellRelation_23 : decode cX12_tellRelation 23 = .ok (.invokevirtual 108, 3) := by decide +kernel
theorem dX12_tellRelation_26 : decode cX12_tellRelation 26 = .ok (.ireturn, 1) := by decide +kernel
theorem dX12_tellRelation_27 : decode cX12_tellRelation 27 = .ok (.aload_n 0, 1) := by decide +kernel
theorem dX12_tellRelation_28 : decode cX12_tellRelation 28 = .ok (.aload_n 0, 1) := by decide +kernel
theorem dX12_tellRelation_29 : decode cX12_tellRelation 29 = .ok (.getfield 9, 3) := by decide +kernel
theorem dX12_tellRelation_32 : decode cX12_tellRelation 32 = .ok (.iload_n 1, 1) := by decide +kernel
theorem dX12_tellRelation_33 : decode cX12_tellRelation 33 = .ok (.iload_n 2, 1) := by decide +kernel
theorem dX12_tellRelation_34 : decode cX12_tellRelation 34 = .ok (.invokevirtual 81, 3) := by decide +kernel
theorem dX12_tellRelation_37 : decode cX12_tellRelation 37 = .ok (.istore 5, 2) := by decide +kernel
theorem dX12_tellRelation_39 : decode cX12_tellRelation 39 = .ok (.iload 5, 2) := by decide +kernel
theorem dX12_tellRelation_41 : decode cX12_tellRelation 41 = .ok (.iconst (-1), 1) := by decide +kernel
theorem dX12_tellRelation_42 : decode cX12_tellRelation 42 = .ok (.if_icmp .ne 8, 3) := by decide +kernel
theorem dX12_tellRelation_45 : decode cX12_tellRelation 45 = .ok (.iload 4, 2) := by decide +kernel
theorem dX12_tellRelation_47 : decode cX12_tellRelation 47 = .ok (.goto 10, 3) := by decide +kernel
theorem dX12_tellRelation_50 : decode cX12_tellRelation 50 = .ok (.aload_n 0, 1) := by decide +kernel
theorem dX12_tellRelation_51 : decode cX12_tellRelation 51 = .ok (.iload 5, 2) := by decide +kernel
theorem dX12_tellRelation_53 : decode cX12_tellRelation 53 = .ok (.iload_n 3, 1) := by decide +kernel
theorem dX12_tellRelation_54 : decode cX12_tellRelation 54 = .ok (.invokevirtual 128, 3) := by decide +kernel
theorem dX12_tellRelation_57 : decode cX12_tellRelation 57 = .ok (.ireturn, 1) := by decide +kernel
theorem dX12_hysteresis_0 : decode cX12_hysteresis 0 = .ok (.aload_n 0, 1) := by decide +kernel
theorem dX12_hysteresis_1 : decode cX12_hysteresis 1 = .ok (.iload_n 1, 1) := by decide +kernel
theorem dX12_hysteresis_2 : decode cX12_hysteresis 2 = .ok (.iload_n 2, 1) := by decide +kernel
theorem dX12_hysteresis_3 : decode cX12_hysteresis 3 = .ok (.iconst 2, 1) := by decide +kernel
theorem dX12_hysteresis_4 : decode cX12_hysteresis 4 = .ok (.iconst (-1), 1) := by decide +kernel
theorem dX12_hysteresis_5 : decode cX12_hysteresis 5 = .ok (.invokevirtual 131, 3) := by decide +kernel
theorem dX12_hysteresis_8 : decode cX12_hysteresis 8 = .ok (.ireturn, 1) := by decide +kernel
theorem dX12_successes_0 : decode cX12_successes 0 = .ok (.aload_n 0, 1) := by decide +kernel
theorem dX12_successes_1 : decode cX12_successes 1 = .ok (.iload_n 1, 1) := by decide +kernel
theorem dX12_successes_2 : decode cX12_successes 2 = .ok (.iload_n 2, 1) := by decide +kernel
theorem dX12_successes_3 : decode cX12_successes 3 = .ok (.iconst 3, 1) := by decide +kernel
theorem dX12_successes_4 : decode cX12_successes 4 = .ok (.iconst 0, 1) := by decide +kernel
theorem dX12_successes_5 : decode cX12_successes 5 = .ok (.invokevirtual 131, 3) := by decide +kernel
theorem dX12_successes_8 : decode cX12_successes 8 = .ok (.ireturn, 1) := by decide +kernel
theorem dX12_refusals_0 : decode cX12_refusals 0 = .ok (.aload_n 0, 1) := by decide +kernel
theorem dX12_refusals_1 : decode cX12_refusals 1 = .ok (.iload_n 1, 1) := by decide +kernel
theorem dX12_refusals_2 : decode cX12_refusals 2 = .ok (.iload_n 2, 1) := by decide +kernel
theorem dX12_refusals_3 : decode cX12_refusals 3 = .ok (.iconst 4, 1) := by decide +kernel
theorem dX12_refusals_4 : decode cX12_refusals 4 = .ok (.iconst 0, 1) := by decide +kernel
theorem dX12_refusals_5 : decode cX12_refusals 5 = .ok (.invokevirtual 131, 3) := by decide +kernel
theorem dX12_refusals_8 : decode cX12_refusals 8 = .ok (.ireturn, 1) := by decide +kernel
theorem dX12_total_0 : decode cX12_total 0 = .ok (.aload_n 0, 1) := by decide +kernel
theorem dX12_total_1 : decode cX12_total 1 = .ok (.iconst 0, 1) := by decide +kernel
theorem dX12_total_2 : decode cX12_total 2 = .ok (.putfield 70, 3) := by decide +kernel
theorem dX12_total_5 : decode cX12_total 5 = .ok (.iload_n 1, 1) := by decide +kernel
theorem dX12_total_6 : decode cX12_total 6 = .ok (.iconst 0, 1) := by decide +kernel
theorem dX12_total_7 : decode cX12_total 7 = .ok (.bipush 7, 2) := by decide +kernel
theorem dX12_total_9 : decode cX12_total 9 = .ok (.invokestatic 73, 3) := by decide +kernel
theorem dX12_total_12 : decode cX12_total 12 = .ok (.ifCond .eq 15, 3) := by decide +kernel
theorem dX12_total_15 : decode cX12_total 15 = .ok (.aload_n 0, 1) := by decide +kernel
theorem dX12_total_16 : decode cX12_total 16 = .ok (.getfield 9, 3) := by decide +kernel
theorem dX12_total_19 : decode cX12_total 19 = .ok (.bipush 10, 2) := by decide +kernel
theorem dX12_total_21 : decode cX12_total 21 = .ok (.iload_n 1, 1) := by decide +kernel
theorem dX12_total_22 : decode cX12_total 22 = .ok (.iadd, 1) := by decide +kernel
theorem dX12_total_23 : decode cX12_total 23 = .ok (.iaload, 1) := by decide +kernel
theorem dX12_total_24 : decode cX12_total 24 = .ok (.goto 4, 3) := by decide +kernel
theorem dX12_total_27 : decode cX12_total 27 = .ok (.iconst (-1), 1) := by decide +kernel
theorem dX12_total_28 : decode cX12_total 28 = .ok (.ireturn, 1) := by decide +kernel
theorem dX12_count_0 : decode cX12_count 0 = .ok (.aload_n 0, 1) := by decide +kernel
theorem dX12_count_1 : decode cX12_count 1 = .ok (.getfield 9, 3) := by decide +kernel
theorem dX12_count_4 : decode cX12_count 4 = .ok (.bipush 10, 2) := by decide +kernel
theorem dX12_count_6 : decode cX12_count 6 = .ok (.iload_n 1, 1) := by decide +kernel
theorem dX12_count_7 : decode cX12_count 7 = .ok (.iadd, 1) := by decide +kernel
theorem dX12_count_8 : decode cX12_count 8 = .ok (.dup2, 1) := by decide +kernel
theorem dX12_count_9 : decode cX12_count 9 = .ok (.iaload, 1) := by decide +kernel
theorem dX12_count_10 : decode cX12_count 10 = .ok (.iconst 1, 1) := by decide +kernel
theorem dX12_count_11 : decode cX12_count 11 = .ok (.iadd, 1) := by decide +kernel
theorem dX12_count_12 : decode cX12_count 12 = .ok (.iastore, 1) := by decide +kernel
theorem dX12_count_13 : decode cX12_count 13 = .ok (.return_, 1) := by decide +kernel
theorem dX12_congestedTicks_0 : decode cX12_congestedTicks 0 = .ok (.aload_n 0, 1) := by decide +kernel
theorem dX12_congestedTicks_1 : decode cX12_congestedTicks 1 = .ok (.iconst 0, 1) := by decide +kernel
theorem dX12_congestedTicks_2 : decode cX12_congestedTicks 2 = .ok (.putfield 70, 3) := by decide +kernel
theorem dX12_congestedTicks_5 : decode cX12_congestedTicks 5 = .ok (.aload_n 0, 1) := by decide +kernel
theorem dX12_congestedTicks_6 : decode cX12_congestedTicks 6 = .ok (.iload_n 1, 1) := by decide +kernel
theorem dX12_congestedTicks_7 : decode cX12_congestedTicks 7 = .ok (.invokevirtual 104, 3) := by decide +kernel
theorem dX12_congestedTicks_10 : decode cX12_congestedTicks 10 = .ok (.ifCond .ne 9, 3) := by decide +kernel
theorem dX12_congestedTicks_13 : decode cX12_congestedTicks 13 = .ok (.aload_n 0, 1) := by decide +kernel
theorem dX12_congestedTicks_14 : decode cX12_congestedTicks 14 = .ok (.iconst 1, 1) := by decide +kernel
theorem dX12_congestedTicks_15 : decode cX12_congestedTicks 15 = .ok (.invokevirtual 108, 3) := by decide +kernel
theorem dX12_congestedTicks_18 : decode cX12_congestedTicks 18 = .ok (.ireturn, 1) := by decide +kernel
theorem dX12_congestedTicks_19 : decode cX12_congestedTicks 19 = .ok (.aload_n 0, 1) := by decide +kernel
theorem dX12_congestedTicks_20 : decode cX12_congestedTicks 20 = .ok (.iload_n 1, 1) := by decide +kernel
theorem dX12_congestedTicks_21 : decode cX12_congestedTicks 21 = .ok (.bipush 8, 2) := by decide +kernel
theorem dX12_congestedTicks_23 : decode cX12_congestedTicks 23 = .ok (.invokevirtual 85, 3) := by decide +kernel
theorem dX12_congestedTicks_26 : decode cX12_congestedTicks 26 = .ok (.ireturn, 1) := by decide +kernel
theorem dX12_busy_0 : decode cX12_busy 0 = .ok (.iconst 0, 1) := by decide +kernel
theorem dX12_busy_1 : decode cX12_busy 1 = .ok (.istore_n 2, 1) := by decide +kernel
theorem dX12_busy_2 : decode cX12_busy 2 = .ok (.iconst 0, 1) := by decide +kernel
theorem dX12_busy_3 : decode cX12_busy 3 = .ok (.istore_n 3, 1) := by decide +kernel
theorem dX12_busy_4 : decode cX12_busy 4 = .ok (.iload_n 3, 1) := by decide +kernel
theorem dX12_busy_5 : decode cX12_busy 5 = .ok (.aload_n 0, 1) := by decide +kernel
theorem dX12_busy_6 : decode cX12_busy 6 = .ok (.getfield 9, 3) := by decide +kernel
theorem dX12_busy_9 : decode cX12_busy 9 = .ok (.iconst 2, 1) := by decide +kernel
theorem dX12_busy_10 : decode cX12_busy 10 = .ok (.iaload, 1) := by decide +kernel
theorem dX12_busy_11 : decode cX12_busy 11 = .ok (.if_icmp .ge 35, 3) := by decide +kernel
theorem dX12_busy_14 : decode cX12_busy 14 = .ok (.iload_n 2, 1) := by decide +kernel
theorem dX12_busy_15 : decode cX12_busy 15 = .ok (.aload_n 0, 1) := by decide +kernel
theorem dX12_busy_16 : decode cX12_busy 16 = .ok (.iload_n 3, 1) := by decide +kernel
theorem dX12_busy_17 : decode cX12_busy 17 = .ok (.invokevirtual 135, 3) := by decide +kernel
theorem dX12_busy_20 : decode cX12_busy 20 = .ok (.ifCond .eq 17, 3) := by decide +kernel
theorem dX12_busy_23 : decode cX12_busy 23 = .ok (.aload_n 0, 1) := by decide +kernel
theorem dX12_busy_24 : decode cX12_busy 24 = .ok (.iload_n 3, 1) := by decide +kernel
theorem dX12_busy_25 : decode cX12_busy 25 = .ok (.iconst 5, 1) := by decide +kernel
theorem dX12_busy_26 : decode cX12_busy 26 = .ok (.invokevirtual 77, 3) := by decide +kernel
theorem dX12_busy_29 : decode cX12_busy 29 = .ok (.iload_n 1, 1) := by decide +kernel
theorem dX12_busy_30 : decode cX12_busy 30 = .ok (.if_icmp .ne 7, 3) := by decide +kernel
theorem dX12_busy_33 : decode cX12_busy 33 = .ok (.iconst 1, 1) := by decide +kernel
theorem dX12_busy_34 : decode cX12_busy 34 = .ok (.goto 4, 3) := by decide +kernel
theorem dX12_busy_37 : decode cX12_busy 37 = .ok (.iconst 0, 1) := by decide +kernel
theorem dX12_busy_38 : decode cX12_busy 38 = .ok (.iadd, 1) := by decide +kernel
theorem dX12_busy_39 : decode cX12_busy 39 = .ok (.istore_n 2, 1) := by decide +kernel
theorem dX12_busy_40 : decode cX12_busy 40 = .ok (.iinc 3 1, 3) := by decide +kernel
theorem dX12_busy_43 : decode cX12_busy 43 = .ok (.goto (-39), 3) := by decide +kernel
theorem dX12_busy_46 : decode cX12_busy 46 = .ok (.iload_n 2, 1) := by decide +kernel
theorem dX12_busy_47 : decode cX12_busy 47 = .ok (.ireturn, 1) := by decide +kernel
theorem dX12_hasFreeChannel_0 : decode cX12_hasFreeChannel 0 = .ok (.aload_n 0, 1) := by decide +kernel
theorem dX12_hasFreeChannel_1 : decode cX12_hasFreeChannel 1 = .ok (.iload_n 1, 1) := by decide +kernel
theorem dX12_hasFreeChannel_2 : decode cX12_hasFreeChannel 2 = .ok (.invokevirtual 138, 3) := by decide +kernel
theorem dX12_hasFreeChannel_5 : decode cX12_hasFreeChannel 5 = .ok (.aload_n 0, 1) := by decide +kernel
theorem dX12_hasFreeChannel_6 : decode cX12_hasFreeChannel 6 = .ok (.iload_n 1, 1) := by decide +kernel
theorem dX12_hasFreeChannel_7 : decode cX12_hasFreeChannel 7 = .ok (.iconst 4, 1) := by decide +kernel
theorem dX12_hasFreeChannel_8 : decode cX12_hasFreeChannel 8 = .ok (.invokevirtual 85, 3) := by decide +kernel
theorem dX12_hasFreeChannel_11 : decode cX12_hasFreeChannel 11 = .ok (.if_icmp .ge 7, 3) := by decide +kernel
theorem dX12_hasFreeChannel_14 : decode cX12_hasFreeChannel 14 = .ok (.iconst 1, 1) := by decide +kernel
theorem dX12_hasFreeChannel_15 : decode cX12_hasFreeChannel 15 = .ok (.goto 4, 3) := by decide +kernel
theorem dX12_hasFreeChannel_18 : decode cX12_hasFreeChannel 18 = .ok (.iconst 0, 1) := by decide +kernel
theorem dX12_hasFreeChannel_19 : decode cX12_hasFreeChannel 19 = .ok (.ireturn, 1) := by decide +kernel
theorem dX12_waitingAt_0 : decode cX12_waitingAt 0 = .ok (.iconst 0, 1) := by decide +kernel
theorem dX12_waitingAt_1 : decode cX12_waitingAt 1 = .ok (.istore_n 2, 1) := by decide +kernel
theorem dX12_waitingAt_2 : decode cX12_waitingAt 2 = .ok (.iconst 0, 1) := by decide +kernel
theorem dX12_waitingAt_3 : decode cX12_waitingAt 3 = .ok (.istore_n 3, 1) := by decide +kernel
theorem dX12_waitingAt_4 : decode cX12_waitingAt 4 = .ok (.iload_n 3, 1) := by decide +kernel
theorem dX12_waitingAt_5 : decode cX12_waitingAt 5 = .ok (.aload_n 0, 1) := by decide +kernel
theorem dX12_waitingAt_6 : decode cX12_waitingAt 6 = .ok (.getfield 9, 3) := by decide +kernel
theorem dX12_waitingAt_9 : decode cX12_waitingAt 9 = .ok (.iconst 2, 1) := by decide +kernel
theorem dX12_waitingAt_10 : decode cX12_waitingAt 10 = .ok (.iaload, 1) := by decide +kernel
theorem dX12_waitingAt_11 : decode cX12_waitingAt 11 = .ok (.if_icmp .ge 28, 3) := by decide +kernel
theorem dX12_waitingAt_14 : decode cX12_waitingAt 14 = .ok (.iload_n 2, 1) := by decide +kernel
theorem dX12_waitingAt_15 : decode cX12_waitingAt 15 = .ok (.aload_n 0, 1) := by decide +kernel
theorem dX12_waitingAt_16 : decode cX12_waitingAt 16 = .ok (.iload_n 3, 1) := by decide +kernel
theorem dX12_waitingAt_17 : decode cX12_waitingAt 17 = .ok (.bipush 8, 2) := by decide +kernel
theorem dX12_waitingAt_19 : decode cX12_waitingAt 19 = .ok (.invokevirtual 77, 3) := by decide +kernel
theorem dX12_waitingAt_22 : decode cX12_waitingAt 22 = .ok (.iload_n 1, 1) := by decide +kernel
theorem dX12_waitingAt_23 : decode cX12_waitingAt 23 = .ok (.if_icmp .ne 7, 3) := by decide +kernel
theorem dX12_waitingAt_26 : decode cX12_waitingAt 26 = .ok (.iconst 1, 1) := by decide +kernel
theorem dX12_waitingAt_27 : decode cX12_waitingAt 27 = .ok (.goto 4, 3) := by decide +kernel
theorem dX12_waitingAt_30 : decode cX12_waitingAt 30 = .ok (.iconst 0, 1) := by decide +kernel
theorem dX12_waitingAt_31 : decode cX12_waitingAt 31 = .ok (.iadd, 1) := by decide +kernel
theorem dX12_waitingAt_32 : decode cX12_waitingAt 32 = .ok (.istore_n 2, 1) := by decide +kernel
theorem dX12_waitingAt_33 : decode cX12_waitingAt 33 = .ok (.iinc 3 1, 3) := by decide +kernel
theorem dX12_waitingAt_36 : decode cX12_waitingAt 36 = .ok (.goto (-32), 3) := by decide +kernel
theorem dX12_waitingAt_39 : decode cX12_waitingAt 39 = .ok (.iload_n 2, 1) := by decide +kernel
theorem dX12_waitingAt_40 : decode cX12_waitingAt 40 = .ok (.ireturn, 1) := by decide +kernel
theorem dX12_hasRoom_0 : decode cX12_hasRoom 0 = .ok (.aload_n 0, 1) := by decide +kernel
theorem dX12_hasRoom_1 : decode cX12_hasRoom 1 = .ok (.iload_n 1, 1) := by decide +kernel
theorem dX12_hasRoom_2 : decode cX12_hasRoom 2 = .ok (.invokevirtual 141, 3) := by decide +kernel
theorem dX12_hasRoom_5 : decode cX12_hasRoom 5 = .ok (.aload_n 0, 1) := by decide +kernel
theorem dX12_hasRoom_6 : decode cX12_hasRoom 6 = .ok (.iload_n 1, 1) := by decide +kernel
theorem dX12_hasRoom_7 : decode cX12_hasRoom 7 = .ok (.iconst 5, 1) := by decide +kernel
theorem dX12_hasRoom_8 : decode cX12_hasRoom 8 = .ok (.invokevirtual 85, 3) := by decide +kernel
theorem dX12_hasRoom_11 : decode cX12_hasRoom 11 = .ok (.if_icmp .ge 7, 3) := by decide +kernel
theorem dX12_hasRoom_14 : decode cX12_hasRoom 14 = .ok (.iconst 1, 1) := by decide +kernel
theorem dX12_hasRoom_15 : decode cX12_hasRoom 15 = .ok (.goto 4, 3) := by decide +kernel
theorem dX12_hasRoom_18 : decode cX12_hasRoom 18 = .ok (.iconst 0, 1) := by decide +kernel
theorem dX12_hasRoom_19 : decode cX12_hasRoom 19 = .ok (.ireturn, 1) := by decide +kernel
theorem dX12_isAhead_0 : decode cX12_isAhead 0 = .ok (.aload_n 0, 1) := by decide +kernel
theorem dX12_isAhead_1 : decode cX12_isAhead 1 = .ok (.iload_n 1, 1) := by decide +kernel
theorem dX12_isAhead_2 : decode cX12_isAhead 2 = .ok (.bipush 9, 2) := by decide +kernel
theorem dX12_isAhead_4 : decode cX12_isAhead 4 = .ok (.invokevirtual 77, 3) := by decide +kernel
theorem dX12_isAhead_7 : decode cX12_isAhead 7 = .ok (.aload_n 0, 1) := by decide +kernel
theorem dX12_isAhead_8 : decode cX12_isAhead 8 = .ok (.iload_n 2, 1) := by decide +kernel
theorem dX12_isAhead_9 : decode cX12_isAhead 9 = .ok (.bipush 9, 2) := by decide +kernel
theorem dX12_isAhead_11 : decode cX12_isAhead 11 = .ok (.invokevirtual 77, 3) := by decide +kernel
theorem dX12_isAhead_14 : decode cX12_isAhead 14 = .ok (.if_icmp .eq 26, 3) := by decide +kernel
theorem dX12_isAhead_17 : decode cX12_isAhead 17 = .ok (.aload_n 0, 1) := by decide +kernel
theorem dX12_isAhead_18 : decode cX12_isAhead 18 = .ok (.iload_n 1, 1) := by decide +kernel
theorem dX12_isAhead_19 : decode cX12_isAhead 19 = .ok (.bipush 9, 2) := by decide +kernel
theorem dX12_isAhead_21 : decode cX12_isAhead 21 = .ok (.invokevirtual 77, 3) := by decide +kernel
theorem dX12_isAhead_24 : decode cX12_isAhead 24 = .ok (.aload_n 0, 1) := by decide +kernel
theorem dX12_isAhead_25 : decode cX12_isAhead 25 = .ok (.iload_n 2, 1) := by decide +kernel
theorem dX12_isAhead_26 : decode cX12_isAhead 26 = .ok (.bipush 9, 2) := by decide +kernel
theorem dX12_isAhead_28 : decode cX12_isAhead 28 = .ok (.invokevirtual 77, 3) := by decide +kernel
theorem dX12_isAhead_31 : decode cX12_isAhead 31 = .ok (.if_icmp .ge 7, 3) := by decide +kernel
theorem dX12_isAhead_34 : decode cX12_isAhead 34 = .ok (.iconst 1, 1) := by decide +kernel
theorem dX12_isAhead_35 : decode cX12_isAhead 35 = .ok (.goto 4, 3) := by decide +kernel
theorem dX12_isAhead_38 : decode cX12_isAhead 38 = .ok (.iconst 0, 1) := by decide +kernel
theorem dX12_isAhead_39 : decode cX12_isAhead 39 = .ok (.ireturn, 1) := by decide +kernel
theorem dX12_isAhead_40 : decode cX12_isAhead 40 = .ok (.aload_n 0, 1) := by decide +kernel
theorem dX12_isAhead_41 : decode cX12_isAhead 41 = .ok (.iload_n 1, 1) := by decide +kernel
theorem dX12_isAhead_42 : decode cX12_isAhead 42 = .ok (.bipush 10, 2) := by decide +kernel
theorem dX12_isAhead_44 : decode cX12_isAhead 44 = .ok (.invokevirtual 77, 3) := by decide +kernel
theorem dX12_isAhead_47 : decode cX12_isAhead 47 = .ok (.aload_n 0, 1) := by decide +kernel
theorem dX12_isAhead_48 : decode cX12_isAhead 48 = .ok (.iload_n 2, 1) := by decide +kernel
theorem dX12_isAhead_49 : decode cX12_isAhead 49 = .ok (.bipush 10, 2) := by decide +kernel
theorem dX12_isAhead_51 : decode cX12_isAhead 51 = .ok (.invokevirtual 77, 3) := by decide +kernel
theorem dX12_isAhead_54 : decode cX12_isAhead 54 = .ok (.if_icmp .eq 28, 3) := by decide +kernel
theorem dX12_isAhead_57 : decode cX12_isAhead 57 = .ok (.aload_n 0, 1) := by decide +kernel
theorem dX12_isAhead_58 : decode cX12_isAhead 58 = .ok (.iload_n 1, 1) := by decide +kernel
theorem dX12_isAhead_59 : decode cX12_isAhead 59 = .ok (.bipush 10, 2) := by decide +kernel
theorem dX12_isAhead_61 : decode cX12_isAhead 61 = .ok (.invokevirtual 77, 3) := by decide +kernel
theorem dX12_isAhead_64 : decode cX12_isAhead 64 = .ok (.aload_n 0, 1) := by decide +kernel
theorem dX12_isAhead_65 : decode cX12_isAhead 65 = .ok (.iload_n 2, 1) := by decide +kernel
theorem dX12_isAhead_66 : decode cX12_isAhead 66 = .ok (.bipush 10, 2) := by decide +kernel
theorem dX12_isAhead_68 : decode cX12_isAhead 68 = .ok (.invokevirtual 77, 3) := by decide +kernel
theorem dX12_isAhead_71 : decode cX12_isAhead 71 = .ok (.if_icmp .ge 7, 3) := by decide +kernel
theorem dX12_isAhead_74 : decode cX12_isAhead 74 = .ok (.iconst 1, 1) := by decide +kernel
theorem dX12_isAhead_75 : decode cX12_isAhead 75 = .ok (.goto 17, 3) := by decide +kernel
theorem dX12_isAhead_78 : decode cX12_isAhead 78 = .ok (.iconst 0, 1) := by decide +kernel
theorem dX12_isAhead_79 : decode cX12_isAhead 79 = .ok (.goto 13, 3) := by decide +kernel
theorem dX12_isAhead_82 : decode cX12_isAhead 82 = .ok (.iload_n 1, 1) := by decide +kernel
theorem dX12_isAhead_83 : decode cX12_isAhead 83 = .ok (.iload_n 2, 1) := by decide +kernel
theorem dX12_isAhead_84 : decode cX12_isAhead 84 = .ok (.if_icmp .ge 7, 3) := by decide +kernel
theorem dX12_isAhead_87 : decode cX12_isAhead 87 = .ok (.iconst 1, 1) := by decide +kernel
theorem dX12_isAhead_88 : decode cX12_isAhead 88 = .ok (.goto 4, 3) := by decide +kernel
theorem dX12_isAhead_91 : decode cX12_isAhead 91 = .ok (.iconst 0, 1) := by decide +kernel
theorem dX12_isAhead_92 : decode cX12_isAhead 92 = .ok (.ireturn, 1) := by decide +kernel
theorem dX12_requestAt_0 : decode cX12_requestAt 0 = .ok (.iconst 0, 1) := by decide +kernel
theorem dX12_requestAt_1 : decode cX12_requestAt 1 = .ok (.istore_n 3, 1) := by decide +kernel
theorem dX12_requestAt_2 : decode cX12_requestAt 2 = .ok (.iload_n 3, 1) := by decide +kernel
theorem dX12_requestAt_3 : decode cX12_requestAt 3 = .ok (.aload_n 0, 1) := by decide +kernel
theorem dX12_requestAt_4 : decode cX12_requestAt 4 = .ok (.getfield 9, 3) := by decide +kernel
theorem dX12_requestAt_7 : decode cX12_requestAt 7 = .ok (.iconst 2, 1) := by decide +kernel
theorem dX12_requestAt_8 : decode cX12_requestAt 8 = .ok (.iaload, 1) := by decide +kernel
theorem dX12_requestAt_9 : decode cX12_requestAt 9 = .ok (.if_icmp .ge 92, 3) := by decide +kernel
theorem dX12_requestAt_12 : decode cX12_requestAt 12 = .ok (.aload_n 0, 1) := by decide +kernel
theorem dX12_requestAt_13 : decode cX12_requestAt 13 = .ok (.iload_n 3, 1) := by decide +kernel
theorem dX12_requestAt_14 : decode cX12_requestAt 14 = .ok (.bipush 8, 2) := by decide +kernel
theorem dX12_requestAt_16 : decode cX12_requestAt 16 = .ok (.invokevirtual 77, 3) := by decide +kernel
theorem dX12_requestAt_19 : decode cX12_requestAt 19 = .ok (.iload_n 1, 1) := by decide +kernel
theorem dX12_requestAt_20 : decode cX12_requestAt 20 = .ok (.if_icmp .eq 6, 3) := by decide +kernel
theorem dX12_requestAt_23 : decode cX12_requestAt 23 = .ok (.goto 72, 3) := by decide +kernel
theorem dX12_requestAt_26 : decode cX12_requestAt 26 = .ok (.iconst 0, 1) := by decide +kernel
theorem dX12_requestAt_27 : decode cX12_requestAt 27 = .ok (.istore 4, 2) := by decide +kernel
theorem dX12_requestAt_29 : decode cX12_requestAt 29 = .ok (.iconst 0, 1) := by decide +kernel
theorem dX12_requestAt_30 : decode cX12_requestAt 30 = .ok (.istore 5, 2) := by decide +kernel
theorem dX12_requestAt_32 : decode cX12_requestAt 32 = .ok (.iload 5, 2) := by decide +kernel
theorem dX12_requestAt_34 : decode cX12_requestAt 34 = .ok (.aload_n 0, 1) := by decide +kernel
theorem dX12_requestAt_35 : decode cX12_requestAt 35 = .ok (.getfield 9, 3) := by decide +kernel
theorem dX12_requestAt_38 : decode cX12_requestAt 38 = .ok (.iconst 2, 1) := by decide +kernel
theorem dX12_requestAt_39 : decode cX12_requestAt 39 = .ok (.iaload, 1) := by decide +kernel
theorem dX12_requestAt_40 : decode cX12_requestAt 40 = .ok (.if_icmp .ge 47, 3) := by decide +kernel
theorem dX12_requestAt_43 : decode cX12_requestAt 43 = .ok (.iload 4, 2) := by decide +kernel
theorem dX12_requestAt_45 : decode cX12_requestAt 45 = .ok (.iload 5, 2) := by decide +kernel
theorem dX12_requestAt_47 : decode cX12_requestAt 47 = .ok (.iload_n 3, 1) := by decide +kernel
theorem dX12_requestAt_48 : decode cX12_requestAt 48 = .ok (.if_icmp .eq 29, 3) := by decide +kernel
theorem dX12_requestAt_51 : decode cX12_requestAt 51 = .ok (.aload_n 0, 1) := by decide +kernel
theorem dX12_requestAt_52 : decode cX12_requestAt 52 = .ok (.iload 5, 2) := by decide +kernel
theorem dX12_requestAt_54 : decode cX12_requestAt 54 = .ok (.bipush 8, 2) := by decide +kernel
theorem dX12_requestAt_56 : decode cX12_requestAt 56 = .ok (.invokevirtual 77, 3) := by decide +kernel
theorem dX12_requestAt_59 : decode cX12_requestAt 59 = .ok (.iload_n 1, 1) := by decide +kernel
theorem dX12_requestAt_60 : decode cX12_requestAt 60 = .ok (.if_icmp .ne 17, 3) := by decide +kernel
theorem dX12_requestAt_63 : decode cX12_requestAt 63 = .ok (.aload_n 0, 1) := by decide +kernel
theorem dX12_requestAt_64 : decode cX12_requestAt 64 = .ok (.iload 5, 2) := by decide +kernel
theorem dX12_requestAt_66 : decode cX12_requestAt 66 = .ok (.iload_n 3, 1) := by decide +kernel
theorem dX12_requestAt_67 : decode cX12_requestAt 67 = .ok (.invokevirtual 144, 3) := by decide +kernel
theorem dX12_requestAt_70 : decode cX12_requestAt 70 = .ok (.ifCond .eq 7, 3) := by decide +kernel
theorem dX12_requestAt_73 : decode cX12_requestAt 73 = .ok (.iconst 1, 1) := by decide +kernel
theorem dX12_requestAt_74 : decode cX12_requestAt 74 = .ok (.goto 4, 3) := by decide +kernel
theorem dX12_requestAt_77 : decode cX12_requestAt 77 = .ok (.iconst 0, 1) := by decide +kernel
theorem dX12_requestAt_78 : decode cX12_requestAt 78 = .ok (.iadd, 1) := by decide +kernel
theorem dX12_requestAt_79 : decode cX12_requestAt 79 = .ok (.istore 4, 2) := by decide +kernel
theorem dX12_requestAt_81 : decode cX12_requestAt 81 = .ok (.iinc 5 1, 3) := by decide +kernel
theorem dX12_requestAt_84 : decode cX12_requestAt 84 = .ok (.goto (-52), 3) := by decide +kernel
theorem dX12_requestAt_87 : decode cX12_requestAt 87 = .ok (.iload 4, 2) := by decide +kernel
theorem dX12_requestAt_89 : decode cX12_requestAt 89 = .ok (.iload_n 2, 1) := by decide +kernel
theorem dX12_requestAt_90 : decode cX12_requestAt 90 = .ok (.if_icmp .ne 5, 3) := by decide +kernel
theorem dX12_requestAt_93 : decode cX12_requestAt 93 = .ok (.iload_n 3, 1) := by decide +kernel
theorem dX12_requestAt_94 : decode cX12_requestAt 94 = .ok (.ireturn, 1) := by decide +kernel
theorem dX12_requestAt_95 : decode cX12_requestAt 95 = .ok (.iinc 3 1, 3) := by decide +kernel
theorem dX12_requestAt_98 : decode cX12_requestAt 98 = .ok (.goto (-96), 3) := by decide +kernel
theorem dX12_requestAt_101 : decode cX12_requestAt 101 = .ok (.iconst (-1), 1) := by decide +kernel
theorem dX12_requestAt_102 : decode cX12_requestAt 102 = .ok (.ireturn, 1) := by decide +kernel
theorem dX12_request_0 : decode cX12_request 0 = .ok (.aload_n 0, 1) := by decide +kernel
theorem dX12_request_1 : decode cX12_request 1 = .ok (.iload_n 1, 1) := by decide +kernel
theorem dX12_request_2 : decode cX12_request 2 = .ok (.bipush 8, 2) := by decide +kernel
theorem dX12_request_4 : decode cX12_request 4 = .ok (.iload_n 2, 1) := by decide +kernel
theorem dX12_request_5 : decode cX12_request 5 = .ok (.invokevirtual 147, 3) := by decide +kernel
theorem dX12_request_8 : decode cX12_request 8 = .ok (.aload_n 0, 1) := by decide +kernel
theorem dX12_request_9 : decode cX12_request 9 = .ok (.iload_n 1, 1) := by decide +kernel
theorem dX12_request_10 : decode cX12_request 10 = .ok (.bipush 9, 2) := by decide +kernel
theorem dX12_request_12 : decode cX12_request 12 = .ok (.iload_n 3, 1) := by decide +kernel
theorem dX12_request_13 : decode cX12_request 13 = .ok (.invokevirtual 147, 3) := by decide +kernel
theorem dX12_request_16 : decode cX12_request 16 = .ok (.aload_n 0, 1) := by decide +kernel
theorem dX12_request_17 : decode cX12_request 17 = .ok (.iload_n 1, 1) := by decide +kernel
theorem dX12_request_18 : decode cX12_request 18 = .ok (.bipush 10, 2) := by decide +kernel
theorem dX12_request_20 : decode cX12_request 20 = .ok (.aload_n 0, 1) := by decide +kernel
theorem dX12_request_21 : decode cX12_request 21 = .ok (.getfield 9, 3) := by decide +kernel
theorem dX12_request_24 : decode cX12_request 24 = .ok (.iconst 3, 1) := by decide +kernel
theorem dX12_request_25 : decode cX12_request 25 = .ok (.iaload, 1) := by decide +kernel
theorem dX12_request_26 : decode cX12_request 26 = .ok (.invokevirtual 147, 3) := by decide +kernel
theorem dX12_request_29 : decode cX12_request 29 = .ok (.return_, 1) := by decide +kernel
theorem dX12_withdraw_0 : decode cX12_withdraw 0 = .ok (.aload_n 0, 1) := by decide +kernel
theorem dX12_withdraw_1 : decode cX12_withdraw 1 = .ok (.iload_n 1, 1) := by decide +kernel
theorem dX12_withdraw_2 : decode cX12_withdraw 2 = .ok (.bipush 8, 2) := by decide +kernel
theorem dX12_withdraw_4 : decode cX12_withdraw 4 = .ok (.iconst (-1), 1) := by decide +kernel
theorem dX12_withdraw_5 : decode cX12_withdraw 5 = .ok (.invokevirtual 147, 3) := by decide +kernel
theorem dX12_withdraw_8 : decode cX12_withdraw 8 = .ok (.return_, 1) := by decide +kernel
theorem dX12_busyChannels_0 : decode cX12_busyChannels 0 = .ok (.aload_n 0, 1) := by decide +kernel
theorem dX12_busyChannels_1 : decode cX12_busyChannels 1 = .ok (.iconst 0, 1) := by decide +kernel
theorem dX12_busyChannels_2 : decode cX12_busyChannels 2 = .ok (.putfield 70, 3) := by decide +kernel
theorem dX12_busyChannels_5 : decode cX12_busyChannels 5 = .ok (.aload_n 0, 1) := by decide +kernel
theorem dX12_busyChannels_6 : decode cX12_busyChannels 6 = .ok (.iload_n 1, 1) := by decide +kernel
theorem dX12_busyChannels_7 : decode cX12_busyChannels 7 = .ok (.invokevirtual 104, 3) := by decide +kernel
theorem dX12_busyChannels_10 : decode cX12_busyChannels 10 = .ok (.ifCond .ne 9, 3) := by decide +kernel
theorem dX12_busyChannels_13 : decode cX12_busyChannels 13 = .ok (.aload_n 0, 1) := by decide +kernel
theorem dX12_busyChannels_14 : decode cX12_busyChannels 14 = .ok (.iconst 1, 1) := by decide +kernel
theorem dX12_busyChannels_15 : decode cX12_busyChannels 15 = .ok (.invokevirtual 108, 3) := by decide +kernel
theorem dX12_busyChannels_18 : decode cX12_busyChannels 18 = .ok (.ireturn, 1) := by decide +kernel
theorem dX12_busyChannels_19 : decode cX12_busyChannels 19 = .ok (.aload_n 0, 1) := by decide +kernel
theorem dX12_busyChannels_20 : decode cX12_busyChannels 20 = .ok (.iload_n 1, 1) := by decide +kernel
theorem dX12_busyChannels_21 : decode cX12_busyChannels 21 = .ok (.invokevirtual 138, 3) := by decide +kernel
theorem dX12_busyChannels_24 : decode cX12_busyChannels 24 = .ok (.ireturn, 1) := by decide +kernel
theorem dX12_queueLength_0 : decode cX12_queueLength 0 = .ok (.aload_n 0, 1) := by decide +kernel
theorem dX12_queueLength_1 : decode cX12_queueLength 1 = .ok (.iconst 0, 1) := by decide +kernel
theorem dX12_queueLength_2 : decode cX12_queueLength 2 = .ok (.putfield 70, 3) := by decide +kernel
theorem dX12_queueLength_5 : decode cX12_queueLength 5 = .ok (.aload_n 0, 1) := by decide +kernel
theorem dX12_queueLength_6 : decode cX12_queueLength 6 = .ok (.iload_n 1, 1) := by decide +kernel
theorem dX12_queueLength_7 : decode cX12_queueLength 7 = .ok (.invokevirtual 104, 3) := by decide +kernel
theorem dX12_queueLength_10 : decode cX12_queueLength 10 = .ok (.ifCond .ne 9, 3) := by decide +kernel
theorem dX12_queueLength_13 : decode cX12_queueLength 13 = .ok (.aload_n 0, 1) := by decide +kernel
theorem dX12_queueLength_14 : decode cX12_queueLength 14 = .ok (.iconst 1, 1) := by decide +kernel
theorem dX12_queueLength_15 : decode cX12_queueLength 15 = .ok (.invokevirtual 108, 3) := by decide +kernel
theorem dX12_queueLength_18 : decode cX12_queueLength 18 = .ok (.ireturn, 1) := by decide +kernel
theorem dX12_queueLength_19 : decode cX12_queueLength 19 = .ok (.aload_n 0, 1) := by decide +kernel
theorem dX12_queueLength_20 : decode cX12_queueLength 20 = .ok (.iload_n 1, 1) := by decide +kernel
theorem dX12_queueLength_21 : decode cX12_queueLength 21 = .ok (.invokevirtual 141, 3) := by decide +kernel
theorem dX12_queueLength_24 : decode cX12_queueLength 24 = .ok (.ireturn, 1) := by decide +kernel
theorem dX12_queued_0 : decode cX12_queued 0 = .ok (.aload_n 0, 1) := by decide +kernel
theorem dX12_queued_1 : decode cX12_queued 1 = .ok (.iconst 0, 1) := by decide +kernel
theorem dX12_queued_2 : decode cX12_queued 2 = .ok (.putfield 70, 3) := by decide +kernel
theorem dX12_queued_5 : decode cX12_queued 5 = .ok (.aload_n 0, 1) := by decide +kernel
theorem dX12_queued_6 : decode cX12_queued 6 = .ok (.iload_n 1, 1) := by decide +kernel
theorem dX12_queued_7 : decode cX12_queued 7 = .ok (.invokevirtual 104, 3) := by decide +kernel
theorem dX12_queued_10 : decode cX12_queued 10 = .ok (.ifCond .eq 7, 3) := by decide +kernel
theorem dX12_queued_13 : decode cX12_queued 13 = .ok (.iload_n 2, 1) := by decide +kernel
theorem dX12_queued_14 : decode cX12_queued 14 = .ok (.ifCond .ge 9, 3) := by decide +kernel
theorem dX12_queued_17 : decode cX12_queued 17 = .ok (.aload_n 0, 1) := by decide +kernel
theorem dX12_queued_18 : decode cX12_queued 18 = .ok (.iconst 1, 1) := by decide +kernel
theorem dX12_queued_19 : decode cX12_queued 19 = .ok (.invokevirtual 108, 3) := by decide +kernel
theorem dX12_queued_22 : decode cX12_queued 22 = .ok (.ireturn, 1) := by decide +kernel
theorem dX12_queued_23 : decode cX12_queued 23 = .ok (.aload_n 0, 1) := by decide +kernel
theorem dX12_queued_24 : decode cX12_queued 24 = .ok (.iload_n 1, 1) := by decide +kernel
theorem dX12_queued_25 : decode cX12_queued 25 = .ok (.iload_n 2, 1) := by decide +kernel
theorem dX12_queued_26 : decode cX12_queued 26 = .ok (.invokevirtual 151, 3) := by decide +kernel
theorem dX12_queued_29 : decode cX12_queued 29 = .ok (.ireturn, 1) := by decide +kernel
theorem dX12_reportsOf_0 : decode cX12_reportsOf 0 = .ok (.aload_n 0, 1) := by decide +kernel
theorem dX12_reportsOf_1 : decode cX12_reportsOf 1 = .ok (.iload_n 1, 1) := by decide +kernel
theorem dX12_reportsOf_2 : decode cX12_reportsOf 2 = .ok (.bipush 19, 2) := by decide +kernel
theorem dX12_reportsOf_4 : decode cX12_reportsOf 4 = .ok (.iload_n 2, 1) := by decide +kernel
theorem dX12_reportsOf_5 : decode cX12_reportsOf 5 = .ok (.iadd, 1) := by decide +kernel
theorem dX12_reportsOf_6 : decode cX12_reportsOf 6 = .ok (.invokevirtual 77, 3) := by decide +kernel
theorem dX12_reportsOf_9 : decode cX12_reportsOf 9 = .ok (.ireturn, 1) := by decide +kernel
theorem dX12_averageOf_0 : decode cX12_averageOf 0 = .ok (.iconst 0, 1) := by decide +kernel
theorem dX12_averageOf_1 : decode cX12_averageOf 1 = .ok (.istore_n 3, 1) := by decide +kernel
theorem dX12_averageOf_2 : decode cX12_averageOf 2 = .ok (.aload_n 0, 1) := by decide +kernel
theorem dX12_averageOf_3 : decode cX12_averageOf 3 = .ok (.iload_n 1, 1) := by decide +kernel
theorem dX12_averageOf_4 : decode cX12_averageOf 4 = .ok (.iload_n 2, 1) := by decide +kernel
theorem dX12_averageOf_5 : decode cX12_averageOf 5 = .ok (.invokevirtual 154, 3) := by decide +kernel
theorem dX12_averageOf_8 : decode cX12_averageOf 8 = .ok (.istore 4, 2) := by decide +kernel
theorem dX12_averageOf_10 : decode cX12_averageOf 10 = .ok (.iconst 0, 1) := by decide +kernel
theorem dX12_averageOf_11 : decode cX12_averageOf 11 = .ok (.istore 5, 2) := by decide +kernel
theorem dX12_averageOf_13 : decode cX12_averageOf 13 = .ok (.iload 5, 2) := by decide +kernel
theorem dX12_averageOf_15 : decode cX12_averageOf 15 = .ok (.iload 4, 2) := by decide +kernel
theorem dX12_averageOf_17 : decode cX12_averageOf 17 = .ok (.if_icmp .ge 27, 3) := by decide +kernel
theorem dX12_averageOf_20 : decode cX12_averageOf 20 = .ok (.iload_n 3, 1) := by decide +kernel
theorem dX12_averageOf_21 : decode cX12_averageOf 21 = .ok (.aload_n 0, 1) := by decide +kernel
theorem dX12_averageOf_22 : decode cX12_averageOf 22 = .ok (.iload_n 1, 1) := by decide +kernel
theorem dX12_averageOf_23 : decode cX12_averageOf 23 = .ok (.bipush 27, 2) := by decide +kernel
theorem dX12_averageOf_25 : decode cX12_averageOf 25 = .ok (.bipush 8, 2) := by decide +kernel
theorem dX12_averageOf_27 : decode cX12_averageOf 27 = .ok (.iload_n 2, 1) := by decide +kernel
theorem dX12_averageOf_28 : decode cX12_averageOf 28 = .ok (.imul, 1) := by decide +kernel
theorem dX12_averageOf_29 : decode cX12_averageOf 29 = .ok (.iadd, 1) := by decide +kernel
theorem dX12_averageOf_30 : decode cX12_averageOf 30 = .ok (.iload 5, 2) := by decide +kernel
theorem dX12_averageOf_32 : decode cX12_averageOf 32 = .ok (.iadd, 1) := by decide +kernel
theorem dX12_averageOf_33 : decode cX12_averageOf 33 = .ok (.invokevirtual 77, 3) := by decide +kernel
theorem dX12_averageOf_36 : decode cX12_averageOf 36 = .ok (.iadd, 1) := by decide +kernel
theorem dX12_averageOf_37 : decode cX12_averageOf 37 = .ok (.istore_n 3, 1) := by decide +kernel
theorem dX12_averageOf_38 : decode cX12_averageOf 38 = .ok (.iinc 5 1, 3) := by decide +kernel
theorem dX12_averageOf_41 : decode cX12_averageOf 41 = .ok (.goto (-28), 3) := by decide +kernel
theorem dX12_averageOf_44 : decode cX12_averageOf 44 = .ok (.iload_n 3, 1) := by decide +kernel
theorem dX12_averageOf_45 : decode cX12_averageOf 45 = .ok (.iload 4, 2) := by decide +kernel
theorem dX12_averageOf_47 : decode cX12_averageOf 47 = .ok (.idiv, 1) := by decide +kernel
theorem dX12_averageOf_48 : decode cX12_averageOf 48 = .ok (.ireturn, 1) := by decide +kernel
theorem dX12_report_0 : decode cX12_report 0 = .ok (.aload_n 0, 1) := by decide +kernel
theorem dX12_report_1 : decode cX12_report 1 = .ok (.iload_n 1, 1) := by decide +kernel
theorem dX12_report_2 : decode cX12_report 2 = .ok (.iload_n 2, 1) := by decide +kernel
theorem dX12_report_3 : decode cX12_report 3 = .ok (.invokevirtual 154, 3) := by decide +kernel
theorem dX12_report_6 : decode cX12_report 6 = .ok (.istore 4, 2) := by decide +kernel
theorem dX12_report_8 : decode cX12_report 8 = .ok (.iload 4, 2) := by decide +kernel
theorem dX12_report_10 : decode cX12_report 10 = .ok (.aload_n 0, 1) := by decide +kernel
theorem dX12_report_11 : decode cX12_report 11 = .ok (.getfield 9, 3) := by decide +kernel
theorem dX12_report_14 : decode cX12_report 14 = .ok (.iconst 4, 1) := by decide +kernel
theorem dX12_report_15 : decode cX12_report 15 = .ok (.iaload, 1) := by decide +kernel
theorem dX12_report_16 : decode cX12_report 16 = .ok (.if_icmp .ne 54, 3) := by decide +kernel
theorem dX12_report_19 : decode cX12_report 19 = .ok (.iconst 1, 1) := by decide +kernel
theorem dX12_report_20 : decode cX12_report 20 = .ok (.istore 5, 2) := by decide +kernel
theorem dX12_report_22 : decode cX12_report 22 = .ok (.iload 5, 2) := by decide +kernel
theorem dX12_report_24 : decode cX12_report 24 = .ok (.iload 4, 2) := by decide +kernel
theorem dX12_report_26 : decode cX12_report 26 = .ok (.if_icmp .ge 41, 3) := by decide +kernel
theorem dX12_report_29 : decode cX12_report 29 = .ok (.aload_n 0, 1) := by decide +kernel
theorem dX12_report_30 : decode cX12_report 30 = .ok (.iload_n 1, 1) := by decide +kernel
theorem dX12_report_31 : decode cX12_report 31 = .ok (.bipush 27, 2) := by decide +kernel
theorem dX12_report_33 : decode cX12_report 33 = .ok (.bipush 8, 2) := by decide +kernel
theorem dX12_report_35 : decode cX12_report 35 = .ok (.iload_n 2, 1) := by decide +kernel
theorem dX12_report_36 : decode cX12_report 36 = .ok (.imul, 1) := by decide +kernel
theorem dX12_report_37 : decode cX12_report 37 = .ok (.iadd, 1) := by decide +kernel
theorem dX12_report_38 : decode cX12_report 38 = .ok (.iload 5, 2) := by decide +kernel
theorem dX12_report_40 : decode cX12_report 40 = .ok (.iadd, 1) := by decide +kernel
theorem dX12_report_41 : decode cX12_report 41 = .ok (.iconst 1, 1) := by decide +kernel
theorem dX12_report_42 : decode cX12_report 42 = .ok (.isub, 1) := by decide +kernel
theorem dX12_report_43 : decode cX12_report 43 = .ok (.aload_n 0, 1) := by decide +kernel
theorem dX12_report_44 : decode cX12_report 44 = .ok (.iload_n 1, 1) := by decide +kernel
theorem dX12_report_45 : decode cX12_report 45 = .ok (.bipush 27, 2) := by decide +kernel
theorem dX12_report_47 : decode cX12_report 47 = .ok (.bipush 8, 2) := by decide +kernel
theorem dX12_report_49 : decode cX12_report 49 = .ok (.iload_n 2, 1) := by decide +kernel
theorem dX12_report_50 : decode cX12_report 50 = .ok (.imul, 1) := by decide +kernel
theorem dX12_report_51 : decode cX12_report 51 = .ok (.iadd, 1) := by decide +kernel
theorem dX12_report_52 : decode cX12_report 52 = .ok (.iload 5, 2) := by decide +kernel
theorem dX12_report_54 : decode cX12_report 54 = .ok (.iadd, 1) := by decide +kernel
theorem dX12_report_55 : decode cX12_report 55 = .ok (.invokevirtual 77, 3) := by decide +kernel
theorem dX12_report_58 : decode cX12_report 58 = .ok (.invokevirtual 147, 3) := by decide +kernel
theorem dX12_report_61 : decode cX12_report 61 = .ok (.iinc 5 1, 3) := by decide +kernel
theorem dX12_report_64 : decode cX12_report 64 = .ok (.goto (-42), 3) := by decide +kernel
theorem dX12_report_67 : decode cX12_report 67 = .ok (.iinc 4 (-1), 3) := by decide +kernel
theorem dX12_report_70 : decode cX12_report 70 = .ok (.aload_n 0, 1) := by decide +kernel
theorem dX12_report_71 : decode cX12_report 71 = .ok (.iload_n 1, 1) := by decide +kernel
theorem dX12_report_72 : decode cX12_report 72 = .ok (.bipush 27, 2) := by decide +kernel
theorem dX12_report_74 : decode cX12_report 74 = .ok (.bipush 8, 2) := by decide +kernel
theorem dX12_report_76 : decode cX12_report 76 = .ok (.iload_n 2, 1) := by decide +kernel
theorem dX12_report_77 : decode cX12_report 77 = .ok (.imul, 1) := by decide +kernel
theorem dX12_report_78 : decode cX12_report 78 = .ok (.iadd, 1) := by decide +kernel
theorem dX12_report_79 : decode cX12_report 79 = .ok (.iload 4, 2) := by decide +kernel
theorem dX12_report_81 : decode cX12_report 81 = .ok (.iadd, 1) := by decide +kernel
theorem dX12_report_82 : decode cX12_report 82 = .ok (.iload_n 3, 1) := by decide +kernel
theorem dX12_report_83 : decode cX12_report 83 = .ok (.invokevirtual 147, 3) := by decide +kernel
theorem dX12_report_86 : decode cX12_report 86 = .ok (.aload_n 0, 1) := by decide +kernel
theorem dX12_report_87 : decode cX12_report 87 = .ok (.iload_n 1, 1) := by decide +kernel
theorem dX12_report_88 : decode cX12_report 88 = .ok (.bipush 19, 2) := by decide +kernel
theorem dX12_report_90 : decode cX12_report 90 = .ok (.iload_n 2, 1) := by decide +kernel
theorem dX12_report_91 : decode cX12_report 91 = .ok (.iadd, 1) := by decide +kernel
theorem dX12_report_92 : decode cX12_report 92 = .ok (.iload 4, 2) := by decide +kernel
theorem dX12_report_94 : decode cX12_report 94 = .ok (.iconst 1, 1) := by decide +kernel
theorem dX12_report_95 : decode cX12_report 95 = .ok (.iadd, 1) := by decide +kernel
theorem dX12_report_96 : decode cX12_report 96 = .ok (.invokevirtual 147, 3) := by decide +kernel
theorem dX12_report_99 : decode cX12_report 99 = .ok (.return_, 1) := by decide +kernel
theorem dX12_measure_0 : decode cX12_measure 0 = .ok (.aload_n 0, 1) := by decide +kernel
theorem dX12_measure_1 : decode cX12_measure 1 = .ok (.iload_n 1, 1) := by decide +kernel
theorem dX12_measure_2 : decode cX12_measure 2 = .ok (.iconst 5, 1) := by decide +kernel
theorem dX12_measure_3 : decode cX12_measure 3 = .ok (.invokevirtual 77, 3) := by decide +kernel
theorem dX12_measure_6 : decode cX12_measure 6 = .ok (.istore_n 2, 1) := by decide +kernel
theorem dX12_measure_7 : decode cX12_measure 7 = .ok (.iconst 0, 1) := by decide +kernel
theorem dX12_measure_8 : decode cX12_measure 8 = .ok (.istore_n 3, 1) := by decide +kernel
theorem dX12_measure_9 : decode cX12_measure 9 = .ok (.iload_n 3, 1) := by decide +kernel
theorem dX12_measure_10 : decode cX12_measure 10 = .ok (.aload_n 0, 1) := by decide +kernel
theorem dX12_measure_11 : decode cX12_measure 11 = .ok (.getfield 9, 3) := by decide +kernel
theorem dX12_measure_14 : decode cX12_measure 14 = .ok (.iconst 0, 1) := by decide +kernel
theorem dX12_measure_15 : decode cX12_measure 15 = .ok (.iaload, 1) := by decide +kernel
theorem dX12_measure_16 : decode cX12_measure 16 = .ok (.if_icmp .ge 48, 3) := by decide +kernel
theorem dX12_measure_19 : decode cX12_measure 19 = .ok (.iload_n 3, 1) := by decide +kernel
theorem dX12_measure_20 : decode cX12_measure 20 = .ok (.iload_n 2, 1) := by decide +kernel
theorem dX12_measure_21 : decode cX12_measure 21 = .ok (.if_icmp .eq 12, 3) := by decide +kernel
theorem dX12_measure_24 : decode cX12_measure 24 = .ok (.aload_n 0, 1) := by decide +kernel
theorem dX12_measure_25 : decode cX12_measure 25 = .ok (.iload_n 2, 1) := by decide +kernel
theorem dX12_measure_26 : decode cX12_measure 26 = .ok (.iload_n 3, 1) := by decide +kernel
theorem dX12_measure_27 : decode cX12_measure 27 = .ok (.invokevirtual 121, 3) := by decide +kernel
theorem dX12_measure_30 : decode cX12_measure 30 = .ok (.ifCond .eq 18, 3) := by decide +kernel
theorem dX12_measure_33 : decode cX12_measure 33 = .ok (.aload_n 0, 1) := by decide +kernel
theorem dX12_measure_34 : decode cX12_measure 34 = .ok (.iload_n 1, 1) := by decide +kernel
theorem dX12_measure_35 : decode cX12_measure 35 = .ok (.iload_n 3, 1) := by decide +kernel
theorem dX12_measure_36 : decode cX12_measure 36 = .ok (.aload_n 0, 1) := by decide +kernel
theorem dX12_measure_37 : decode cX12_measure 37 = .ok (.iload_n 3, 1) := by decide +kernel
theorem dX12_measure_38 : decode cX12_measure 38 = .ok (.iload_n 1, 1) := by decide +kernel
theorem dX12_measure_39 : decode cX12_measure 39 = .ok (.invokevirtual 157, 3) := by decide +kernel
theorem dX12_measure_42 : decode cX12_measure 42 = .ok (.invokevirtual 160, 3) := by decide +kernel
theorem dX12_measure_45 : decode cX12_measure 45 = .ok (.goto 13, 3) := by decide +kernel
theorem dX12_measure_48 : decode cX12_measure 48 = .ok (.aload_n 0, 1) := by decide +kernel
theorem dX12_measure_49 : decode cX12_measure 49 = .ok (.iload_n 1, 1) := by decide +kernel
theorem dX12_measure_50 : decode cX12_measure 50 = .ok (.bipush 19, 2) := by decide +kernel
theorem dX12_measure_52 : decode cX12_measure 52 = .ok (.iload_n 3, 1) := by decide +kernel
theorem dX12_measure_53 : decode cX12_measure 53 = .ok (.iadd, 1) := by decide +kernel
theorem dX12_measure_54 : decode cX12_measure 54 = .ok (.iconst 0, 1) := by decide +kernel
theorem dX12_measure_55 : decode cX12_measure 55 = .ok (.invokevirtual 147, 3) := by decide +kernel
theorem dX12_measure_58 : decode cX12_measure 58 = .ok (.iinc 3 1, 3) := by decide +kernel
theorem dX12_measure_61 : decode cX12_measure 61 = .ok (.goto (-52), 3) := by decide +kernel
theorem dX12_measure_64 : decode cX12_measure 64 = .ok (.return_, 1) := by decide +kernel
theorem dX12_isBarredNow_0 : decode cX12_isBarredNow 0 = .ok (.aload_n 0, 1) := by decide +kernel
theorem dX12_isBarredNow_1 : decode cX12_isBarredNow 1 = .ok (.getfield 9, 3) := by decide +kernel
theorem dX12_isBarredNow_4 : decode cX12_isBarredNow 4 = .ok (.iconst 3, 1) := by decide +kernel
theorem dX12_isBarredNow_5 : decode cX12_isBarredNow 5 = .ok (.iaload, 1) := by decide +kernel
theorem dX12_isBarredNow_6 : decode cX12_isBarredNow 6 = .ok (.aload_n 0, 1) := by decide +kernel
theorem dX12_isBarredNow_7 : decode cX12_isBarredNow 7 = .ok (.iload_n 1, 1) := by decide +kernel
theorem dX12_isBarredNow_8 : decode cX12_isBarredNow 8 = .ok (.bipush 11, 2) := by decide +kernel
theorem dX12_isBarredNow_10 : decode cX12_isBarredNow 10 = .ok (.iload_n 2, 1) := by decide +kernel
theorem dX12_isBarredNow_11 : decode cX12_isBarredNow 11 = .ok (.iadd, 1) := by decide +kernel
theorem dX12_isBarredNow_12 : decode cX12_isBarredNow 12 = .ok (.invokevirtual 77, 3) := by decide +kernel
theorem dX12_isBarredNow_15 : decode cX12_isBarredNow 15 = .ok (.if_icmp .gt 7, 3) := by decide +kernel
theorem dX12_isBarredNow_18 : decode cX12_isBarredNow 18 = .ok (.iconst 1, 1) := by decide +kernel
theorem dX12_isBarredNow_19 : decode cX12_isBarredNow 19 = .ok (.goto 4, 3) := by decide +kernel
theorem dX12_isBarredNow_22 : decode cX12_isBarredNow 22 = .ok (.iconst 0, 1) := by decide +kernel
theorem dX12_isBarredNow_23 : decode cX12_isBarredNow 23 = .ok (.ireturn, 1) := by decide +kernel
theorem dX12_begin_0 : decode cX12_begin 0 = .ok (.aload_n 0, 1) := by decide +kernel
theorem dX12_begin_1 : decode cX12_begin 1 = .ok (.iload_n 1, 1) := by decide +kernel
theorem dX12_begin_2 : decode cX12_begin 2 = .ok (.iconst 4, 1) := by decide +kernel
theorem dX12_begin_3 : decode cX12_begin 3 = .ok (.iconst 1, 1) := by decide +kernel
theorem dX12_begin_4 : decode cX12_begin 4 = .ok (.invokevirtual 147, 3) := by decide +kernel
theorem dX12_begin_7 : decode cX12_begin 7 = .ok (.aload_n 0, 1) := by decide +kernel
theorem dX12_begin_8 : decode cX12_begin 8 = .ok (.iload_n 1, 1) := by decide +kernel
theorem dX12_begin_9 : decode cX12_begin 9 = .ok (.iconst 5, 1) := by decide +kernel
theorem dX12_begin_10 : decode cX12_begin 10 = .ok (.iload_n 2, 1) := by decide +kernel
theorem dX12_begin_11 : decode cX12_begin 11 = .ok (.invokevirtual 147, 3) := by decide +kernel
theorem dX12_begin_14 : decode cX12_begin 14 = .ok (.aload_n 0, 1) := by decide +kernel
theorem dX12_begin_15 : decode cX12_begin 15 = .ok (.iload_n 1, 1) := by decide +kernel
theorem dX12_begin_16 : decode cX12_begin 16 = .ok (.bipush 7, 2) := by decide +kernel
theorem dX12_begin_18 : decode cX12_begin 18 = .ok (.iconst 0, 1) := by decide +kernel
theorem dX12_begin_19 : decode cX12_begin 19 = .ok (.invokevirtual 147, 3) := by decide +kernel
theorem dX12_begin_22 : decode cX12_begin 22 = .ok (.aload_n 0, 1) := by decide +kernel
theorem dX12_begin_23 : decode cX12_begin 23 = .ok (.iload_n 1, 1) := by decide +kernel
theorem dX12_begin_24 : decode cX12_begin 24 = .ok (.invokevirtual 163, 3) := by decide +kernel
theorem dX12_begin_27 : decode cX12_begin 27 = .ok (.iconst 0, 1) := by decide +kernel
theorem dX12_begin_28 : decode cX12_begin 28 = .ok (.istore_n 3, 1) := by decide +kernel
theorem dX12_begin_29 : decode cX12_begin 29 = .ok (.iload_n 3, 1) := by decide +kernel
theorem dX12_begin_30 : decode cX12_begin 30 = .ok (.bipush 8, 2) := by decide +kernel
theorem dX12_begin_32 : decode cX12_begin 32 = .ok (.if_icmp .ge 29, 3) := by decide +kernel
theorem dX12_begin_35 : decode cX12_begin 35 = .ok (.aload_n 0, 1) := by decide +kernel
theorem dX12_begin_36 : decode cX12_begin 36 = .ok (.iload_n 1, 1) := by decide +kernel
theorem dX12_begin_37 : decode cX12_begin 37 = .ok (.bipush 19, 2) := by decide +kernel
theorem dX12_begin_39 : decode cX12_begin 39 = .ok (.iload_n 3, 1) := by decide +kernel
theorem dX12_begin_40 : decode cX12_begin 40 = .ok (.iadd, 1) := by decide +kernel
theorem dX12_begin_41 : decode cX12_begin 41 = .ok (.iconst 0, 1) := by decide +kernel
theorem dX12_begin_42 : decode cX12_begin 42 = .ok (.invokevirtual 147, 3) := by decide +kernel
theorem dX12_begin_45 : decode cX12_begin 45 = .ok (.aload_n 0, 1) := by decide +kernel
theorem dX12_begin_46 : decode cX12_begin 46 = .ok (.iload_n 1, 1) := by decide +kernel
theorem dX12_begin_47 : decode cX12_begin 47 = .ok (.bipush 11, 2) := by decide +kernel
theorem dX12_begin_49 : decode cX12_begin 49 = .ok (.iload_n 3, 1) := by decide +kernel
theorem dX12_begin_50 : decode cX12_begin 50 = .ok (.iadd, 1) := by decide +kernel
theorem dX12_begin_51 : decode cX12_begin 51 = .ok (.iconst (-1), 1) := by decide +kernel
theorem dX12_begin_52 : decode cX12_begin 52 = .ok (.invokevirtual 147, 3) := by decide +kernel
theorem dX12_begin_55 : decode cX12_begin 55 = .ok (.iinc 3 1, 3) := by decide +kernel
theorem dX12_begin_58 : decode cX12_begin 58 = .ok (.goto (-29), 3) := by decide +kernel
theorem dX12_begin_61 : decode cX12_begin 61 = .ok (.return_, 1) := by decide +kernel
theorem dX12_end_0 : decode cX12_end 0 = .ok (.aload_n 0, 1) := by decide +kernel
theorem dX12_end_1 : decode cX12_end 1 = .ok (.iload_n 1, 1) := by decide +kernel
theorem dX12_end_2 : decode cX12_end 2 = .ok (.iconst 4, 1) := by decide +kernel
theorem dX12_end_3 : decode cX12_end 3 = .ok (.iconst 0, 1) := by decide +kernel
theorem dX12_end_4 : decode cX12_end 4 = .ok (.invokevirtual 147, 3) := by decide +kernel
theorem dX12_end_7 : decode cX12_end 7 = .ok (.aload_n 0, 1) := by decide +kernel
theorem dX12_end_8 : decode cX12_end 8 = .ok (.iload_n 1, 1) := by decide +kernel
theorem dX12_end_9 : decode cX12_end 9 = .ok (.iconst 5, 1) := by decide +kernel
theorem dX12_end_10 : decode cX12_end 10 = .ok (.iconst (-1), 1) := by decide +kernel
theorem dX12_end_11 : decode cX12_end 11 = .ok (.invokevirtual 147, 3) := by decide +kernel
theorem dX12_end_14 : decode cX12_end 14 = .ok (.aload_n 0, 1) := by decide +kernel
theorem dX12_end_15 : decode cX12_end 15 = .ok (.iload_n 1, 1) := by decide +kernel
theorem dX12_end_16 : decode cX12_end 16 = .ok (.bipush 6, 2) := by decide +kernel
theorem dX12_end_18 : decode cX12_end 18 = .ok (.iconst 0, 1) := by decide +kernel
theorem dX12_end_19 : decode cX12_end 19 = .ok (.invokevirtual 147, 3) := by decide +kernel
theorem dX12_end_22 : decode cX12_end 22 = .ok (.aload_n 0, 1) := by decide +kernel
theorem dX12_end_23 : decode cX12_end 23 = .ok (.iload_n 1, 1) := by decide +kernel
theorem dX12_end_24 : decode cX12_end 24 = .ok (.invokevirtual 163, 3) := by decide +kernel
theorem dX12_end_27 : decode cX12_end 27 = .ok (.return_, 1) := by decide +kernel
theorem dX12_retryCell_0 : decode cX12_retryCell 0 = .ok (.iconst (-1), 1) := by decide +kernel
theorem dX12_retryCell_1 : decode cX12_retryCell 1 = .ok (.istore_n 3, 1) := by decide +kernel
theorem dX12_retryCell_2 : decode cX12_retryCell 2 = .ok (.iconst 0, 1) := by decide +kernel
theorem dX12_retryCell_3 : decode cX12_retryCell 3 = .ok (.istore 4, 2) := by decide +kernel
theorem dX12_retryCell_5 : decode cX12_retryCell 5 = .ok (.iload 4, 2) := by decide +kernel
theorem dX12_retryCell_7 : decode cX12_retryCell 7 = .ok (.aload_n 0, 1) := by decide +kernel
theorem dX12_retryCell_8 : decode cX12_retryCell 8 = .ok (.getfield 9, 3) := by decide +kernel
theorem dX12_retryCell_11 : decode cX12_retryCell 11 = .ok (.iconst 0, 1) := by decide +kernel
theorem dX12_retryCell_12 : decode cX12_retryCell 12 = .ok (.iaload, 1) := by decide +kernel
theorem dX12_retryCell_13 : decode cX12_retryCell 13 = .ok (.if_icmp .ge 82, 3) := by decide +kernel
theorem dX12_retryCell_16 : decode cX12_retryCell 16 = .ok (.aload_n 0, 1) := by decide +kernel
theorem dX12_retryCell_17 : decode cX12_retryCell 17 = .ok (.iload_n 2, 1) := by decide +kernel
theorem dX12_retryCell_18 : decode cX12_retryCell 18 = .ok (.iload 4, 2) := by decide +kernel
theorem dX12_retryCell_20 : decode cX12_retryCell 20 = .ok (.invokevirtual 121, 3) := by decide +kernel
theorem dX12_retryCell_23 : decode cX12_retryCell 23 = .ok (.ifCond .eq 34, 3) := by decide +kernel
theorem dX12_retryCell_26 : decode cX12_retryCell 26 = .ok (.aload_n 0, 1) := by decide +kernel
theorem dX12_retryCell_27 : decode cX12_retryCell 27 = .ok (.iload 4, 2) := by decide +kernel
theorem dX12_retryCell_29 : decode cX12_retryCell 29 = .ok (.invokevirtual 167, 3) := by decide +kernel
theorem dX12_retryCell_32 : decode cX12_retryCell 32 = .ok (.ifCond .eq 25, 3) := by decide +kernel
theorem dX12_retryCell_35 : decode cX12_retryCell 35 = .ok (.aload_n 0, 1) := by decide +kernel
theorem dX12_retryCell_36 : decode cX12_retryCell 36 = .ok (.iload 4, 2) := by decide +kernel
theorem dX12_retryCell_38 : decode cX12_retryCell 38 = .ok (.iload_n 1, 1) := by decide +kernel
theorem dX12_retryCell_39 : decode cX12_retryCell 39 = .ok (.invokevirtual 157, 3) := by decide +kernel
theorem dX12_retryCell_42 : decode cX12_retryCell 42 = .ok (.aload_n 0, 1) := by decide +kernel
theorem dX12_retryCell_43 : decode cX12_retryCell 43 = .ok (.iload 4, 2) := by decide +kernel
theorem dX12_retryCell_45 : decode cX12_retryCell 45 = .ok (.bipush 6, 2) := by decide +kernel
theorem dX12_retryCell_47 : decode cX12_retryCell 47 = .ok (.invokevirtual 85, 3) := by decide +kernel
theorem dX12_retryCell_50 : decode cX12_retryCell 50 = .ok (.if_icmp .lt 7, 3) := by decide +kernel
theorem dX12_retryCell_53 : decode cX12_retryCell 53 = .ok (.iconst 1, 1) := by decide +kernel
theorem dX12_retryCell_54 : decode cX12_retryCell 54 = .ok (.goto 4, 3) := by decide +kernel
theorem dX12_retryCell_57 : decode cX12_retryCell 57 = .ok (.iconst 0, 1) := by decide +kernel
theorem dX12_retryCell_58 : decode cX12_retryCell 58 = .ok (.istore 5, 2) := by decide +kernel
theorem dX12_retryCell_60 : decode cX12_retryCell 60 = .ok (.iload 5, 2) := by decide +kernel
theorem dX12_retryCell_62 : decode cX12_retryCell 62 = .ok (.ifCond .eq 27, 3) := by decide +kernel
theorem dX12_retryCell_65 : decode cX12_retryCell 65 = .ok (.iload_n 3, 1) := by decide +kernel
theorem dX12_retryCell_66 : decode cX12_retryCell 66 = .ok (.iconst (-1), 1) := by decide +kernel
theorem dX12_retryCell_67 : decode cX12_retryCell 67 = .ok (.if_icmp .eq 19, 3) := by decide +kernel
theorem dX12_retryCell_70 : decode cX12_retryCell 70 = .ok (.aload_n 0, 1) := by decide +kernel
theorem dX12_retryCell_71 : decode cX12_retryCell 71 = .ok (.iload 4, 2) := by decide +kernel
theorem dX12_retryCell_73 : decode cX12_retryCell 73 = .ok (.iload_n 1, 1) := by decide +kernel
theorem dX12_retryCell_74 : decode cX12_retryCell 74 = .ok (.invokevirtual 157, 3) := by decide +kernel
theorem dX12_retryCell_77 : decode cX12_retryCell 77 = .ok (.aload_n 0, 1) := by decide +kernel
theorem dX12_retryCell_78 : decode cX12_retryCell 78 = .ok (.iload_n 3, 1) := by decide +kernel
theorem dX12_retryCell_79 : decode cX12_retryCell 79 = .ok (.iload_n 1, 1) := by decide +kernel
theorem dX12_retryCell_80 : decode cX12_retryCell 80 = .ok (.invokevirtual 157, 3) := by decide +kernel
theorem dX12_retryCell_83 : decode cX12_retryCell 83 = .ok (.if_icmp .le 6, 3) := by decide +kernel
theorem dX12_retryCell_86 : decode cX12_retryCell 86 = .ok (.iload 4, 2) := by decide +kernel
theorem dX12_retryCell_88 : decode cX12_retryCell 88 = .ok (.istore_n 3, 1) := by decide +kernel
theorem dX12_retryCell_89 : decode cX12_retryCell 89 = .ok (.iinc 4 1, 3) := by decide +kernel
theorem dX12_retryCell_92 : decode cX12_retryCell 92 = .ok (.goto (-87), 3) := by decide +kernel
theorem dX12_retryCell_95 : decode cX12_retryCell 95 = .ok (.iload_n 3, 1) := by decide +kernel
theorem dX12_retryCell_96 : decode cX12_retryCell 96 = .ok (.ireturn, 1) := by decide +kernel
theorem dX12_call_0 : decode cX12_call 0 = .ok (.aload_n 0, 1) := by decide +kernel
theorem dX12_call_1 : decode cX12_call 1 = .ok (.iconst 0, 1) := by decide +kernel
theorem dX12_call_2 : decode cX12_call 2 = .ok (.putfield 70, 3) := by decide +kernel
theorem dX12_call_5 : decode cX12_call 5 = .ok (.aload_n 0, 1) := by decide +kernel
theorem dX12_call_6 : decode cX12_call 6 = .ok (.iload_n 1, 1) := by decide +kernel
theorem dX12_call_7 : decode cX12_call 7 = .ok (.invokevirtual 170, 3) := by decide +kernel
theorem dX12_call_10 : decode cX12_call 10 = .ok (.ifCond .ne 9, 3) := by decide +kernel
theorem dX12_call_13 : decode cX12_call 13 = .ok (.aload_n 0, 1) := by decide +kernel
theorem dX12_call_14 : decode cX12_call 14 = .ok (.iconst 1, 1) := by decide +kernel
theorem dX12_call_15 : decode cX12_call 15 = .ok (.invokevirtual 108, 3) := by decide +kernel
theorem dX12_call_18 : decode cX12_call 18 = .ok (.ireturn, 1) := by decide +kernel
theorem dX12_call_19 : decode cX12_call 19 = .ok (.iload_n 2, 1) := by decide +kernel
theorem dX12_call_20 : decode cX12_call 20 = .ok (.iconst 1, 1) := by decide +kernel
theorem dX12_call_21 : decode cX12_call 21 = .ok (.sipush 500, 3) := by decide +kernel
theorem dX12_call_24 : decode cX12_call 24 = .ok (.invokestatic 73, 3) := by decide +kernel
theorem dX12_call_27 : decode cX12_call 27 = .ok (.ifCond .ne 9, 3) := by decide +kernel
theorem dX12_call_30 : decode cX12_call 30 = .ok (.aload_n 0, 1) := by decide +kernel
theorem dX12_call_31 : decode cX12_call 31 = .ok (.iconst 2, 1) := by decide +kernel
theorem dX12_call_32 : decode cX12_call 32 = .ok (.invokevirtual 108, 3) := by decide +kernel
theorem dX12_call_35 : decode cX12_call 35 = .ok (.ireturn, 1) := by decide +kernel
theorem dX12_call_36 : decode cX12_call 36 = .ok (.aload_n 0, 1) := by decide +kernel
theorem dX12_call_37 : decode cX12_call 37 = .ok (.iload_n 1, 1) := by decide +kernel
theorem dX12_call_38 : decode cX12_call 38 = .ok (.iconst 4, 1) := by decide +kernel
theorem dX12_call_39 : decode cX12_call 39 = .ok (.invokevirtual 77, 3) := by decide +kernel
theorem dX12_call_42 : decode cX12_call 42 = .ok (.ifCond .eq 6, 3) := by decide +kernel
theorem dX12_call_45 : decode cX12_call 45 = .ok (.bipush (-2), 2) := by decide +kernel
theorem dX12_call_47 : decode cX12_call 47 = .ok (.ireturn, 1) := by decide +kernel
theorem dX12_call_48 : decode cX12_call 48 = .ok (.aload_n 0, 1) := by decide +kernel
theorem dX12_call_49 : decode cX12_call 49 = .ok (.aload_n 0, 1) := by decide +kernel
theorem dX12_call_50 : decode cX12_call 50 = .ok (.iload_n 1, 1) := by decide +kernel
theorem dX12_call_51 : decode cX12_call 51 = .ok (.iconst 0, 1) := by decide +kernel
theorem dX12_call_52 : decode cX12_call 52 = .ok (.invokevirtual 77, 3) := by decide +kernel
theorem dX12_call_55 : decode cX12_call 55 = .ok (.aload_n 0, 1) := by decide +kernel
theorem dX12_call_56 : decode cX12_call 56 = .ok (.iload_n 1, 1) := by decide +kernel
theorem dX12_call_57 : decode cX12_call 57 = .ok (.iconst 1, 1) := by decide +kernel
theorem dX12_call_58 : decode cX12_call 58 = .ok (.invokevirtual 77, 3) := by decide +kernel
theorem dX12_call_61 : decode cX12_call 61 = .ok (.invokevirtual 114, 3) := by decide +kernel
theorem dX12_call_64 : decode cX12_call 64 = .ok (.istore_n 3, 1) := by decide +kernel
theorem dX12_call_65 : decode cX12_call 65 = .ok (.iload_n 3, 1) := by decide +kernel
theorem dX12_call_66 : decode cX12_call 66 = .ok (.iconst (-1), 1) := by decide +kernel
theorem dX12_call_67 : decode cX12_call 67 = .ok (.if_icmp .ne 6, 3) := by decide +kernel
theorem dX12_call_70 : decode cX12_call 70 = .ok (.bipush (-4), 2) := by decide +kernel
theorem dX12_call_72 : decode cX12_call 72 = .ok (.ireturn, 1) := by decide +kernel
theorem dX12_call_73 : decode cX12_call 73 = .ok (.aload_n 0, 1) := by decide +kernel
theorem dX12_call_74 : decode cX12_call 74 = .ok (.invokevirtual 173, 3) := by decide +kernel
theorem dX12_call_77 : decode cX12_call 77 = .ok (.aload_n 0, 1) := by decide +kernel
theorem dX12_call_78 : decode cX12_call 78 = .ok (.iload_n 1, 1) := by decide +kernel
theorem dX12_call_79 : decode cX12_call 79 = .ok (.bipush 6, 2) := by decide +kernel
theorem dX12_call_81 : decode cX12_call 81 = .ok (.iload_n 2, 1) := by decide +kernel
theorem dX12_call_82 : decode cX12_call 82 = .ok (.invokevirtual 147, 3) := by decide +kernel
theorem dX12_call_85 : decode cX12_call 85 = .ok (.aload_n 0, 1) := by decide +kernel
theorem dX12_call_86 : decode cX12_call 86 = .ok (.iload_n 3, 1) := by decide +kernel
theorem dX12_call_87 : decode cX12_call 87 = .ok (.invokevirtual 167, 3) := by decide +kernel
theorem dX12_call_90 : decode cX12_call 90 = .ok (.ifCond .eq 11, 3) := by decide +kernel
theorem dX12_call_93 : decode cX12_call 93 = .ok (.aload_n 0, 1) := by decide +kernel
theorem dX12_call_94 : decode cX12_call 94 = .ok (.iload_n 1, 1) := by decide +kernel
theorem dX12_call_95 : decode cX12_call 95 = .ok (.iload_n 3, 1) := by decide +kernel
theorem dX12_call_96 : decode cX12_call 96 = .ok (.invokevirtual 176, 3) := by decide +kernel
theorem dX12_call_99 : decode cX12_call 99 = .ok (.iload_n 3, 1) := by decide +kernel
theorem dX12_call_100 : decode cX12_call 100 = .ok (.ireturn, 1) := by decide +kernel
theorem dX12_call_101 : decode cX12_call 101 = .ok (.aload_n 0, 1) := by decide +kernel
theorem dX12_call_102 : decode cX12_call 102 = .ok (.iload_n 1, 1) := by decide +kernel
theorem dX12_call_103 : decode cX12_call 103 = .ok (.iload_n 3, 1) := by decide +kernel
theorem dX12_call_104 : decode cX12_call 104 = .ok (.invokevirtual 180, 3) := by decide +kernel
theorem dX12_call_107 : decode cX12_call 107 = .ok (.istore 4, 2) := by decide +kernel
theorem dX12_call_109 : decode cX12_call 109 = .ok (.iload 4, 2) := by decide +kernel
theorem dX12_call_111 : decode cX12_call 111 = .ok (.iconst (-1), 1) := by decide +kernel
theorem dX12_call_112 : decode cX12_call 112 = .ok (.if_icmp .eq 18, 3) := by decide +kernel
theorem dX12_call_115 : decode cX12_call 115 = .ok (.aload_n 0, 1) := by decide +kernel
theorem dX12_call_116 : decode cX12_call 116 = .ok (.iload_n 1, 1) := by decide +kernel
theorem dX12_call_117 : decode cX12_call 117 = .ok (.iload 4, 2) := by decide +kernel
theorem dX12_call_119 : decode cX12_call 119 = .ok (.invokevirtual 176, 3) := by decide +kernel
theorem dX12_call_122 : decode cX12_call 122 = .ok (.aload_n 0, 1) := by decide +kernel
theorem dX12_call_123 : decode cX12_call 123 = .ok (.iconst 5, 1) := by decide +kernel
theorem dX12_call_124 : decode cX12_call 124 = .ok (.invokevirtual 183, 3) := by decide +kernel
theorem dX12_call_127 : decode cX12_call 127 = .ok (.iload 4, 2) := by decide +kernel
theorem dX12_call_129 : decode cX12_call 129 = .ok (.ireturn, 1) := by decide +kernel
theorem dX12_call_130 : decode cX12_call 130 = .ok (.aload_n 0, 1) := by decide +kernel
theorem dX12_call_131 : decode cX12_call 131 = .ok (.iload_n 3, 1) := by decide +kernel
theorem dX12_call_132 : decode cX12_call 132 = .ok (.invokevirtual 186, 3) := by decide +kernel
theorem dX12_call_135 : decode cX12_call 135 = .ok (.ifCond .eq 20, 3) := by decide +kernel
theorem dX12_call_138 : decode cX12_call 138 = .ok (.aload_n 0, 1) := by decide +kernel
theorem dX12_call_139 : decode cX12_call 139 = .ok (.iload_n 1, 1) := by decide +kernel
theorem dX12_call_140 : decode cX12_call 140 = .ok (.iconst 4, 1) := by decide +kernel
theorem dX12_call_141 : decode cX12_call 141 = .ok (.iconst 2, 1) := by decide +kernel
theorem dX12_call_142 : decode cX12_call 142 = .ok (.invokevirtual 147, 3) := by decide +kernel
theorem dX12_call_145 : decode cX12_call 145 = .ok (.aload_n 0, 1) := by decide +kernel
theorem dX12_call_146 : decode cX12_call 146 = .ok (.iload_n 1, 1) := by decide +kernel
theorem dX12_call_147 : decode cX12_call 147 = .ok (.iload_n 3, 1) := by decide +kernel
theorem dX12_call_148 : decode cX12_call 148 = .ok (.iconst 1, 1) := by decide +kernel
theorem dX12_call_149 : decode cX12_call 149 = .ok (.invokevirtual 189, 3) := by decide +kernel
theorem dX12_call_152 : decode cX12_call 152 = .ok (.bipush (-3), 2) := by decide +kernel
theorem dX12_call_154 : decode cX12_call 154 = .ok (.ireturn, 1) := by decide +kernel
theorem dX12_call_155 : decode cX12_call 155 = .ok (.aload_n 0, 1) := by decide +kernel
theorem dX12_call_156 : decode cX12_call 156 = .ok (.iload_n 1, 1) := by decide +kernel
theorem dX12_call_157 : decode cX12_call 157 = .ok (.bipush 6, 2) := by decide +kernel
theorem dX12_call_159 : decode cX12_call 159 = .ok (.iconst 0, 1) := by decide +kernel
theorem dX12_call_160 : decode cX12_call 160 = .ok (.invokevirtual 147, 3) := by decide +kernel
theorem dX12_call_163 : decode cX12_call 163 = .ok (.aload_n 0, 1) := by decide +kernel
theorem dX12_call_164 : decode cX12_call 164 = .ok (.iconst 4, 1) := by decide +kernel
theorem dX12_call_165 : decode cX12_call 165 = .ok (.invokevirtual 183, 3) := by decide +kernel
theorem dX12_call_168 : decode cX12_call 168 = .ok (.bipush (-5), 2) := by decide +kernel
theorem dX12_call_170 : decode cX12_call 170 = .ok (.ireturn, 1) := by decide +kernel
theorem dX12_hangUp_0 : decode cX12_hangUp 0 = .ok (.aload_n 0, 1) := by decide +kernel
theorem dX12_hangUp_1 : decode cX12_hangUp 1 = .ok (.iload_n 1, 1) := by decide +kernel
theorem dX12_hangUp_2 : decode cX12_hangUp 2 = .ok (.iconst 4, 1) := by decide +kernel
theorem dX12_hangUp_3 : decode cX12_hangUp 3 = .ok (.invokevirtual 192, 3) := by decide +kernel
theorem dX12_hangUp_6 : decode cX12_hangUp 6 = .ok (.istore_n 2, 1) := by decide +kernel
theorem dX12_hangUp_7 : decode cX12_hangUp 7 = .ok (.aload_n 0, 1) := by decide +kernel
theorem dX12_hangUp_8 : decode cX12_hangUp 8 = .ok (.getfield 70, 3) := by decide +kernel
theorem dX12_hangUp_11 : decode cX12_hangUp 11 = .ok (.ifCond .le 5, 3) := by decide +kernel
theorem dX12_hangUp_14 : decode cX12_hangUp 14 = .ok (.iconst 0, 1) := by decide +kernel
theorem dX12_hangUp_15 : decode cX12_hangUp 15 = .ok (.ireturn, 1) := by decide +kernel
theorem dX12_hangUp_16 : decode cX12_hangUp 16 = .ok (.iload_n 2, 1) := by decide +kernel
theorem dX12_hangUp_17 : decode cX12_hangUp 17 = .ok (.ifCond .ne 6, 3) := by decide +kernel
theorem dX12_hangUp_20 : decode cX12_hangUp 20 = .ok (.bipush (-2), 2) := by decide +kernel
theorem dX12_hangUp_22 : decode cX12_hangUp 22 = .ok (.ireturn, 1) := by decide +kernel
theorem dX12_hangUp_23 : decode cX12_hangUp 23 = .ok (.aload_n 0, 1) := by decide +kernel
theorem dX12_hangUp_24 : decode cX12_hangUp 24 = .ok (.invokevirtual 173, 3) := by decide +kernel
theorem dX12_hangUp_27 : decode cX12_hangUp 27 = .ok (.aload_n 0, 1) := by decide +kernel
theorem dX12_hangUp_28 : decode cX12_hangUp 28 = .ok (.iload_n 1, 1) := by decide +kernel
theorem dX12_hangUp_29 : decode cX12_hangUp 29 = .ok (.invokevirtual 195, 3) := by decide +kernel
theorem dX12_hangUp_32 : decode cX12_hangUp 32 = .ok (.iload_n 2, 1) := by decide +kernel
theorem dX12_hangUp_33 : decode cX12_hangUp 33 = .ok (.ireturn, 1) := by decide +kernel
theorem dX12_handOver_0 : decode cX12_handOver 0 = .ok (.aload_n 0, 1) := by decide +kernel
theorem dX12_handOver_1 : decode cX12_handOver 1 = .ok (.iload_n 1, 1) := by decide +kernel
theorem dX12_handOver_2 : decode cX12_handOver 2 = .ok (.iconst 5, 1) := by decide +kernel
theorem dX12_handOver_3 : decode cX12_handOver 3 = .ok (.invokevirtual 77, 3) := by decide +kernel
theorem dX12_handOver_6 : decode cX12_handOver 6 = .ok (.istore_n 3, 1) := by decide +kernel
theorem dX12_handOver_7 : decode cX12_handOver 7 = .ok (.aload_n 0, 1) := by decide +kernel
theorem dX12_handOver_8 : decode cX12_handOver 8 = .ok (.iconst 0, 1) := by decide +kernel
theorem dX12_handOver_9 : decode cX12_handOver 9 = .ok (.invokevirtual 183, 3) := by decide +kernel
theorem dX12_handOver_12 : decode cX12_handOver 12 = .ok (.aload_n 0, 1) := by decide +kernel
theorem dX12_handOver_13 : decode cX12_handOver 13 = .ok (.iload_n 1, 1) := by decide +kernel
theorem dX12_handOver_14 : decode cX12_handOver 14 = .ok (.iload_n 2, 1) := by decide +kernel
theorem dX12_handOver_15 : decode cX12_handOver 15 = .ok (.invokevirtual 198, 3) := by decide +kernel
theorem dX12_handOver_18 : decode cX12_handOver 18 = .ok (.ifCond .eq 8, 3) := by decide +kernel
theorem dX12_handOver_21 : decode cX12_handOver 21 = .ok (.aload_n 0, 1) := by decide +kernel
theorem dX12_handOver_22 : decode cX12_handOver 22 = .ok (.iconst 1, 1) := by decide +kernel
theorem dX12_handOver_23 : decode cX12_handOver 23 = .ok (.invokevirtual 183, 3) := by decide +kernel
theorem dX12_handOver_26 : decode cX12_handOver 26 = .ok (.aload_n 0, 1) := by decide +kernel
theorem dX12_handOver_27 : decode cX12_handOver 27 = .ok (.iload_n 1, 1) := by decide +kernel
theorem dX12_handOver_28 : decode cX12_handOver 28 = .ok (.iconst 5, 1) := by decide +kernel
theorem dX12_handOver_29 : decode cX12_handOver 29 = .ok (.iload_n 2, 1) := by decide +kernel
theorem dX12_handOver_30 : decode cX12_handOver 30 = .ok (.invokevirtual 147, 3) := by decide +kernel
theorem dX12_handOver_33 : decode cX12_handOver 33 = .ok (.aload_n 0, 1) := by decide +kernel
theorem dX12_handOver_34 : decode cX12_handOver 34 = .ok (.iload_n 1, 1) := by decide +kernel
theorem dX12_handOver_35 : decode cX12_handOver 35 = .ok (.bipush 11, 2) := by decide +kernel
theorem dX12_handOver_37 : decode cX12_handOver 37 = .ok (.iload_n 3, 1) := by decide +kernel
theorem dX12_handOver_38 : decode cX12_handOver 38 = .ok (.iadd, 1) := by decide +kernel
theorem dX12_handOver_39 : decode cX12_handOver 39 = .ok (.aload_n 0, 1) := by decide +kernel
theorem dX12_handOver_40 : decode cX12_handOver 40 = .ok (.getfield 9, 3) := by decide +kernel
theorem dX12_handOver_43 : decode cX12_handOver 43 = .ok (.iconst 3, 1) := by decide +kernel
theorem dX12_handOver_44 : decode cX12_handOver 44 = .ok (.iaload, 1) := by decide +kernel
theorem dX12_handOver_45 : decode cX12_handOver 45 = .ok (.aload_n 0, 1) := by decide +kernel
theorem dX12_handOver_46 : decode cX12_handOver 46 = .ok (.getfield 9, 3) := by decide +kernel
theorem dX12_handOver_49 : decode cX12_handOver 49 = .ok (.bipush 6, 2) := by decide +kernel
theorem dX12_handOver_51 : decode cX12_handOver 51 = .ok (.iaload, 1) := by decide +kernel
theorem dX12_handOver_52 : decode cX12_handOver 52 = .ok (.iadd, 1) := by decide +kernel
theorem dX12_handOver_53 : decode cX12_handOver 53 = .ok (.invokevirtual 147, 3) := by decide +kernel
theorem dX12_handOver_56 : decode cX12_handOver 56 = .ok (.aload_n 0, 1) := by decide +kernel
theorem dX12_handOver_57 : decode cX12_handOver 57 = .ok (.iload_n 1, 1) := by decide +kernel
theorem dX12_handOver_58 : decode cX12_handOver 58 = .ok (.bipush 7, 2) := by decide +kernel
theorem dX12_handOver_60 : decode cX12_handOver 60 = .ok (.iconst 0, 1) := by decide +kernel
theorem dX12_handOver_61 : decode cX12_handOver 61 = .ok (.invokevirtual 147, 3) := by decide +kernel
theorem dX12_handOver_64 : decode cX12_handOver 64 = .ok (.aload_n 0, 1) := by decide +kernel
theorem dX12_handOver_65 : decode cX12_handOver 65 = .ok (.iload_n 1, 1) := by decide +kernel
theorem dX12_handOver_66 : decode cX12_handOver 66 = .ok (.invokevirtual 163, 3) := by decide +kernel
theorem dX12_handOver_69 : decode cX12_handOver 69 = .ok (.aload_n 0, 1) := by decide +kernel
theorem dX12_handOver_70 : decode cX12_handOver 70 = .ok (.aload_n 0, 1) := by decide +kernel
theorem dX12_handOver_71 : decode cX12_handOver 71 = .ok (.aload_n 0, 1) := by decide +kernel
theorem dX12_handOver_72 : decode cX12_handOver 72 = .ok (.getfield 9, 3) := by decide +kernel
theorem dX12_handOver_75 : decode cX12_handOver 75 = .ok (.iload_n 3, 1) := by decide +kernel
theorem dX12_handOver_76 : decode cX12_handOver 76 = .ok (.iload_n 2, 1) := by decide +kernel
theorem dX12_handOver_77 : decode cX12_handOver 77 = .ok (.invokevirtual 81, 3) := by decide +kernel
theorem dX12_handOver_80 : decode cX12_handOver 80 = .ok (.iconst 3, 1) := by decide +kernel
theorem dX12_handOver_81 : decode cX12_handOver 81 = .ok (.invokevirtual 201, 3) := by decide +kernel
theorem dX12_handOver_84 : decode cX12_handOver 84 = .ok (.return_, 1) := by decide +kernel
theorem dX12_isEmergency_0 : decode cX12_isEmergency 0 = .ok (.aload_n 0, 1) := by decide +kernel
theorem dX12_isEmergency_1 : decode cX12_isEmergency 1 = .ok (.iload_n 1, 1) := by decide +kernel
theorem dX12_isEmergency_2 : decode cX12_isEmergency 2 = .ok (.iconst 5, 1) := by decide +kernel
theorem dX12_isEmergency_3 : decode cX12_isEmergency 3 = .ok (.invokevirtual 77, 3) := by decide +kernel
theorem dX12_isEmergency_6 : decode cX12_isEmergency 6 = .ok (.istore_n 2, 1) := by decide +kernel
theorem dX12_isEmergency_7 : decode cX12_isEmergency 7 = .ok (.aload_n 0, 1) := by decide +kernel
theorem dX12_isEmergency_8 : decode cX12_isEmergency 8 = .ok (.iload_n 1, 1) := by decide +kernel
theorem dX12_isEmergency_9 : decode cX12_isEmergency 9 = .ok (.iload_n 2, 1) := by decide +kernel
theorem dX12_isEmergency_10 : decode cX12_isEmergency 10 = .ok (.invokevirtual 204, 3) := by decide +kernel
theorem dX12_isEmergency_13 : decode cX12_isEmergency 13 = .ok (.aload_n 0, 1) := by decide +kernel
theorem dX12_isEmergency_14 : decode cX12_isEmergency 14 = .ok (.iload_n 2, 1) := by decide +kernel
theorem dX12_isEmergency_15 : decode cX12_isEmergency 15 = .ok (.bipush 7, 2) := by decide +kernel
theorem dX12_isEmergency_17 : decode cX12_isEmergency 17 = .ok (.invokevirtual 85, 3) := by decide +kernel
theorem dX12_isEmergency_20 : decode cX12_isEmergency 20 = .ok (.if_icmp .ge 7, 3) := by decide +kernel
theorem dX12_isEmergency_23 : decode cX12_isEmergency 23 = .ok (.iconst 1, 1) := by decide +kernel
theorem dX12_isEmergency_24 : decode cX12_isEmergency 24 = .ok (.goto 4, 3) := by decide +kernel
theorem dX12_isEmergency_27 : decode cX12_isEmergency 27 = .ok (.iconst 0, 1) := by decide +kernel
theorem dX12_isEmergency_28 : decode cX12_isEmergency 28 = .ok (.ireturn, 1) := by decide +kernel
theorem dX12_marginOf_0 : decode cX12_marginOf 0 = .ok (.aload_n 0, 1) := by decide +kernel
theorem dX12_marginOf_1 : decode cX12_marginOf 1 = .ok (.iload_n 1, 1) := by decide +kernel
theorem dX12_marginOf_2 : decode cX12_marginOf 2 = .ok (.iconst 5, 1) := by decide +kernel
theorem dX12_marginOf_3 : decode cX12_marginOf 3 = .ok (.invokevirtual 77, 3) := by decide +kernel
theorem dX12_marginOf_6 : decode cX12_marginOf 6 = .ok (.istore 4, 2) := by decide +kernel
theorem dX12_marginOf_8 : decode cX12_marginOf 8 = .ok (.aload_n 0, 1) := by decide +kernel
theorem dX12_marginOf_9 : decode cX12_marginOf 9 = .ok (.aload_n 0, 1) := by decide +kernel
theorem dX12_marginOf_10 : decode cX12_marginOf 10 = .ok (.getfield 9, 3) := by decide +kernel
theorem dX12_marginOf_13 : decode cX12_marginOf 13 = .ok (.iload 4, 2) := by decide +kernel
theorem dX12_marginOf_15 : decode cX12_marginOf 15 = .ok (.iload_n 2, 1) := by decide +kernel
theorem dX12_marginOf_16 : decode cX12_marginOf 16 = .ok (.invokevirtual 81, 3) := by decide +kernel
theorem dX12_marginOf_19 : decode cX12_marginOf 19 = .ok (.istore 5, 2) := by decide +kernel
theorem dX12_marginOf_21 : decode cX12_marginOf 21 = .ok (.iload 5, 2) := by decide +kernel
theorem dX12_marginOf_23 : decode cX12_marginOf 23 = .ok (.iconst (-1), 1) := by decide +kernel
theorem dX12_marginOf_24 : decode cX12_marginOf 24 = .ok (.if_icmp .eq 18, 3) := by decide +kernel
theorem dX12_marginOf_27 : decode cX12_marginOf 27 = .ok (.aload_n 0, 1) := by decide +kernel
theorem dX12_marginOf_28 : decode cX12_marginOf 28 = .ok (.iload_n 1, 1) := by decide +kernel
theorem dX12_marginOf_29 : decode cX12_marginOf 29 = .ok (.iload_n 2, 1) := by decide +kernel
theorem dX12_marginOf_30 : decode cX12_marginOf 30 = .ok (.invokevirtual 154, 3) := by decide +kernel
theorem dX12_marginOf_33 : decode cX12_marginOf 33 = .ok (.aload_n 0, 1) := by decide +kernel
theorem dX12_marginOf_34 : decode cX12_marginOf 34 = .ok (.getfield 9, 3) := by decide +kernel
theorem dX12_marginOf_37 : decode cX12_marginOf 37 = .ok (.iconst 5, 1) := by decide +kernel
theorem dX12_marginOf_38 : decode cX12_marginOf 38 = .ok (.iaload, 1) := by decide +kernel
theorem dX12_marginOf_39 : decode cX12_marginOf 39 = .ok (.if_icmp .ge 5, 3) := by decide +kernel
theorem dX12_marginOf_42 : decode cX12_marginOf 42 = .ok (.iconst 0, 1) := by decide +kernel
theorem dX12_marginOf_43 : decode cX12_marginOf 43 = .ok (.ireturn, 1) := by decide +kernel
theorem dX12_marginOf_44 : decode cX12_marginOf 44 = .ok (.aload_n 0, 1) := by decide +kernel
theorem dX12_marginOf_45 : decode cX12_marginOf 45 = .ok (.iload_n 1, 1) := by decide +kernel
theorem dX12_marginOf_46 : decode cX12_marginOf 46 = .ok (.iload_n 2, 1) := by decide +kernel
theorem dX12_marginOf_47 : decode cX12_marginOf 47 = .ok (.invokevirtual 204, 3) := by decide +kernel
theorem dX12_marginOf_50 : decode cX12_marginOf 50 = .ok (.istore 6, 2) := by decide +kernel
theorem dX12_marginOf_52 : decode cX12_marginOf 52 = .ok (.iload 6, 2) := by decide +kernel
theorem dX12_marginOf_54 : decode cX12_marginOf 54 = .ok (.aload_n 0, 1) := by decide +kernel
theorem dX12_marginOf_55 : decode cX12_marginOf 55 = .ok (.iload_n 2, 1) := by decide +kernel
theorem dX12_marginOf_56 : decode cX12_marginOf 56 = .ok (.bipush 6, 2) := by decide +kernel
theorem dX12_marginOf_58 : decode cX12_marginOf 58 = .ok (.invokevirtual 85, 3) := by decide +kernel
theorem dX12_marginOf_61 : decode cX12_marginOf 61 = .ok (.if_icmp .lt 16, 3) := by decide +kernel
theorem dX12_marginOf_64 : decode cX12_marginOf 64 = .ok (.iload_n 3, 1) := by decide +kernel
theorem dX12_marginOf_65 : decode cX12_marginOf 65 = .ok (.ifCond .ne 14, 3) := by decide +kernel
theorem dX12_marginOf_68 : decode cX12_marginOf 68 = .ok (.aload_n 0, 1) := by decide +kernel
theorem dX12_marginOf_69 : decode cX12_marginOf 69 = .ok (.iload_n 1, 1) := by decide +kernel
theorem dX12_marginOf_70 : decode cX12_marginOf 70 = .ok (.iload_n 2, 1) := by decide +kernel
theorem dX12_marginOf_71 : decode cX12_marginOf 71 = .ok (.invokevirtual 198, 3) := by decide +kernel
theorem dX12_marginOf_74 : decode cX12_marginOf 74 = .ok (.ifCond .eq 5, 3) := by decide +kernel
theorem dX12_marginOf_77 : decode cX12_marginOf 77 = .ok (.iconst 0, 1) := by decide +kernel
theorem dX12_marginOf_78 : decode cX12_marginOf 78 = .ok (.ireturn, 1) := by decide +kernel
theorem dX12_marginOf_79 : decode cX12_marginOf 79 = .ok (.iconst 0, 1) := by decide +kernel
theorem dX12_marginOf_80 : decode cX12_marginOf 80 = .ok (.iload 6, 2) := by decide +kernel
theorem dX12_marginOf_82 : decode cX12_marginOf 82 = .ok (.aload_n 0, 1) := by decide +kernel
theorem dX12_marginOf_83 : decode cX12_marginOf 83 = .ok (.iload_n 1, 1) := by decide +kernel
theorem dX12_marginOf_84 : decode cX12_marginOf 84 = .ok (.iload 4, 2) := by decide +kernel
theorem dX12_marginOf_86 : decode cX12_marginOf 86 = .ok (.invokevirtual 204, 3) := by decide +kernel
theorem dX12_marginOf_89 : decode cX12_marginOf 89 = .ok (.isub, 1) := by decide +kernel
theorem dX12_marginOf_90 : decode cX12_marginOf 90 = .ok (.iload_n 3, 1) := by decide +kernel
theorem dX12_marginOf_91 : decode cX12_marginOf 91 = .ok (.ifCond .eq 7, 3) := by decide +kernel
theorem dX12_marginOf_94 : decode cX12_marginOf 94 = .ok (.iconst 0, 1) := by decide +kernel
theorem dX12_marginOf_95 : decode cX12_marginOf 95 = .ok (.goto 10, 3) := by decide +kernel
theorem dX12_marginOf_98 : decode cX12_marginOf 98 = .ok (.aload_n 0, 1) := by decide +kernel
theorem dX12_marginOf_99 : decode cX12_marginOf 99 = .ok (.iload 5, 2) := by decide +kernel
theorem dX12_marginOf_101 : decode cX12_marginOf 101 = .ok (.iconst 2, 1) := by decide +kernel
theorem dX12_marginOf_102 : decode cX12_marginOf 102 = .ok (.invokevirtual 128, 3) := by decide +kernel
theorem dX12_marginOf_105 : decode cX12_marginOf 105 = .ok (.isub, 1) := by decide +kernel
theorem dX12_marginOf_106 : decode cX12_marginOf 106 = .ok (.invokestatic 94, 3) := by decide +kernel
theorem dX12_marginOf_109 : decode cX12_marginOf 109 = .ok (.ireturn, 1) := by decide +kernel
theorem dX12_rank_0 : decode cX12_rank 0 = .ok (.aload_n 0, 1) := by decide +kernel
theorem dX12_rank_1 : decode cX12_rank 1 = .ok (.iconst 0, 1) := by decide +kernel
theorem dX12_rank_2 : decode cX12_rank 2 = .ok (.putfield 207, 3) := by decide +kernel
theorem dX12_rank_5 : decode cX12_rank 5 = .ok (.aload_n 0, 1) := by decide +kernel
theorem dX12_rank_6 : decode cX12_rank 6 = .ok (.iload_n 1, 1) := by decide +kernel
theorem dX12_rank_7 : decode cX12_rank 7 = .ok (.aload_n 0, 1) := by decide +kernel
theorem dX12_rank_8 : decode cX12_rank 8 = .ok (.iload_n 1, 1) := by decide +kernel
theorem dX12_rank_9 : decode cX12_rank 9 = .ok (.iconst 5, 1) := by decide +kernel
theorem dX12_rank_10 : decode cX12_rank 10 = .ok (.invokevirtual 77, 3) := by decide +kernel
theorem dX12_rank_13 : decode cX12_rank 13 = .ok (.invokevirtual 154, 3) := by decide +kernel
theorem dX12_rank_16 : decode cX12_rank 16 = .ok (.ifCond .ne 4, 3) := by decide +kernel
theorem dX12_rank_19 : decode cX12_rank 19 = .ok (.return_, 1) := by decide +kernel
theorem dX12_rank_20 : decode cX12_rank 20 = .ok (.aload_n 0, 1) := by decide +kernel
theorem dX12_rank_21 : decode cX12_rank 21 = .ok (.iload_n 1, 1) := by decide +kernel
theorem dX12_rank_22 : decode cX12_rank 22 = .ok (.invokevirtual 210, 3) := by decide +kernel
theorem dX12_rank_25 : decode cX12_rank 25 = .ok (.istore_n 2, 1) := by decide +kernel
theorem dX12_rank_26 : decode cX12_rank 26 = .ok (.iconst 0, 1) := by decide +kernel
theorem dX12_rank_27 : decode cX12_rank 27 = .ok (.istore_n 3, 1) := by decide +kernel
theorem dX12_rank_28 : decode cX12_rank 28 = .ok (.iload_n 3, 1) := by decide +kernel
theorem dX12_rank_29 : decode cX12_rank 29 = .ok (.aload_n 0, 1) := by decide +kernel
theorem dX12_rank_30 : decode cX12_rank 30 = .ok (.getfield 9, 3) := by decide +kernel
theorem dX12_rank_33 : decode cX12_rank 33 = .ok (.iconst 0, 1) := by decide +kernel
theorem dX12_rank_34 : decode cX12_rank 34 = .ok (.iaload, 1) := by decide +kernel
theorem dX12_rank_35 : decode cX12_rank 35 = .ok (.if_icmp .ge 108, 3) := by decide +kernel
theorem dX12_rank_38 : decode cX12_rank 38 = .ok (.aload_n 0, 1) := by decide +kernel
theorem dX12_rank_39 : decode cX12_rank 39 = .ok (.getfield 28, 3) := by decide +kernel
theorem dX12_rank_42 : decode cX12_rank 42 = .ok (.iload_n 3, 1) := by decide +kernel
theorem dX12_rank_43 : decode cX12_rank 43 = .ok (.aload_n 0, 1) := by decide +kernel
theorem dX12_rank_44 : decode cX12_rank 44 = .ok (.iload_n 1, 1) := by decide +kernel
theorem dX12_rank_45 : decode cX12_rank 45 = .ok (.iload_n 3, 1) := by decide +kernel
theorem dX12_rank_46 : decode cX12_rank 46 = .ok (.iload_n 2, 1) := by decide +kernel
theorem dX12_rank_47 : decode cX12_rank 47 = .ok (.invokevirtual 213, 3) := by decide +kernel
theorem dX12_rank_50 : decode cX12_rank 50 = .ok (.iastore, 1) := by decide +kernel
theorem dX12_rank_51 : decode cX12_rank 51 = .ok (.aload_n 0, 1) := by decide +kernel
theorem dX12_rank_52 : decode cX12_rank 52 = .ok (.getfield 28, 3) := by decide +kernel
theorem dX12_rank_55 : decode cX12_rank 55 = .ok (.iload_n 3, 1) := by decide +kernel
theorem dX12_rank_56 : decode cX12_rank 56 = .ok (.iaload, 1) := by decide +kernel
theorem dX12_rank_57 : decode cX12_rank 57 = .ok (.ifCond .ne 6, 3) := by decide +kernel
theorem dX12_rank_60 : decode cX12_rank 60 = .ok (.goto 77, 3) := by decide +kernel
theorem dX12_rank_63 : decode cX12_rank 63 = .ok (.aload_n 0, 1) := by decide +kernel
theorem dX12_rank_64 : decode cX12_rank 64 = .ok (.getfield 207, 3) := by decide +kernel
theorem dX12_rank_67 : decode cX12_rank 67 = .ok (.istore 4, 2) := by decide +kernel
theorem dX12_rank_69 : decode cX12_rank 69 = .ok (.iload 4, 2) := by decide +kernel
theorem dX12_rank_71 : decode cX12_rank 71 = .ok (.ifCond .le 48, 3) := by decide +kernel
theorem dX12_rank_74 : decode cX12_rank 74 = .ok (.aload_n 0, 1) := by decide +kernel
theorem dX12_rank_75 : decode cX12_rank 75 = .ok (.getfield 28, 3) := by decide +kernel
theorem dX12_rank_78 : decode cX12_rank 78 = .ok (.aload_n 0, 1) := by decide +kernel
theorem dX12_rank_79 : decode cX12_rank 79 = .ok (.getfield 25, 3) := by decide +kernel
theorem dX12_rank_82 : decode cX12_rank 82 = .ok (.iload 4, 2) := by decide +kernel
theorem dX12_rank_84 : decode cX12_rank 84 = .ok (.iconst 1, 1) := by decide +kernel
theorem dX12_rank_85 : decode cX12_rank 85 = .ok (.isub, 1) := by decide +kernel
theorem dX12_rank_86 : decode cX12_rank 86 = .ok (.iaload, 1) := by decide +kernel
theorem dX12_rank_87 : decode cX12_rank 87 = .ok (.iaload, 1) := by decide +kernel
theorem dX12_rank_88 : decode cX12_rank 88 = .ok (.aload_n 0, 1) := by decide +kernel
theorem dX12_rank_89 : decode cX12_rank 89 = .ok (.getfield 28, 3) := by decide +kernel
theorem dX12_rank_92 : decode cX12_rank 92 = .ok (.iload_n 3, 1) := by decide +kernel
theorem dX12_rank_93 : decode cX12_rank 93 = .ok (.iaload, 1) := by decide +kernel
theorem dX12_rank_94 : decode cX12_rank 94 = .ok (.if_icmp .ge 25, 3) := by decide +kernel
theorem dX12_rank_97 : decode cX12_rank 97 = .ok (.aload_n 0, 1) := by decide +kernel
theorem dX12_rank_98 : decode cX12_rank 98 = .ok (.getfield 25, 3) := by decide +kernel
theorem dX12_rank_101 : decode cX12_rank 101 = .ok (.iload 4, 2) := by decide +kernel
theorem dX12_rank_103 : decode cX12_rank 103 = .ok (.aload_n 0, 1) := by decide +kernel
theorem dX12_rank_104 : decode cX12_rank 104 = .ok (.getfield 25, 3) := by decide +kernel
theorem dX12_rank_107 : decode cX12_rank 107 = .ok (.iload 4, 2) := by decide +kernel
theorem dX12_rank_109 : decode cX12_rank 109 = .ok (.iconst 1, 1) := by decide +kernel
theorem dX12_rank_110 : decode cX12_rank 110 = .ok (.isub, 1) := by decide +kernel
theorem dX12_rank_111 : decode cX12_rank 111 = .ok (.iaload, 1) := by decide +kernel
theorem dX12_rank_112 : decode cX12_rank 112 = .ok (.iastore, 1) := by decide +kernel
theorem dX12_rank_113 : decode cX12_rank 113 = .ok (.iinc 4 (-1), 3) := by decide +kernel
theorem dX12_rank_116 : decode cX12_rank 116 = .ok (.goto (-47), 3) := by decide +kernel
theorem dX12_rank_119 : decode cX12_rank 119 = .ok (.aload_n 0, 1) := by decide +kernel
theorem dX12_rank_120 : decode cX12_rank 120 = .ok (.getfield 25, 3) := by decide +kernel
theorem dX12_rank_123 : decode cX12_rank 123 = .ok (.iload 4, 2) := by decide +kernel
theorem dX12_rank_125 : decode cX12_rank 125 = .ok (.iload_n 3, 1) := by decide +kernel
theorem dX12_rank_126 : decode cX12_rank 126 = .ok (.iastore, 1) := by decide +kernel
theorem dX12_rank_127 : decode cX12_rank 127 = .ok (.aload_n 0, 1) := by decide +kernel
theorem dX12_rank_128 : decode cX12_rank 128 = .ok (.dup, 1) := by decide +kernel
theorem dX12_rank_129 : decode cX12_rank 129 = .ok (.getfield 207, 3) := by decide +kernel
theorem dX12_rank_132 : decode cX12_rank 132 = .ok (.iconst 1, 1) := by decide +kernel
theorem dX12_rank_133 : decode cX12_rank 133 = .ok (.iadd, 1) := by decide +kernel
theorem dX12_rank_134 : decode cX12_rank 134 = .ok (.putfield 207, 3) := by decide +kernel
theorem dX12_rank_137 : decode cX12_rank 137 = .ok (.iinc 3 1, 3) := by decide +kernel
theorem dX12_rank_140 : decode cX12_rank 140 = .ok (.goto (-112), 3) := by decide +kernel
theorem dX12_rank_143 : decode cX12_rank 143 = .ok (.return_, 1) := by decide +kernel
theorem dX12_consider_0 : decode cX12_consider 0 = .ok (.aload_n 0, 1) := by decide +kernel
theorem dX12_consider_1 : decode cX12_consider 1 = .ok (.iload_n 1, 1) := by decide +kernel
theorem dX12_consider_2 : decode cX12_consider 2 = .ok (.invokevirtual 217, 3) := by decide +kernel
theorem dX12_consider_5 : decode cX12_consider 5 = .ok (.aload_n 0, 1) := by decide +kernel
theorem dX12_consider_6 : decode cX12_consider 6 = .ok (.iload_n 1, 1) := by decide +kernel
theorem dX12_consider_7 : decode cX12_consider 7 = .ok (.iconst 5, 1) := by decide +kernel
theorem dX12_consider_8 : decode cX12_consider 8 = .ok (.invokevirtual 77, 3) := by decide +kernel
theorem dX12_consider_11 : decode cX12_consider 11 = .ok (.istore_n 2, 1) := by decide +kernel
theorem dX12_consider_12 : decode cX12_consider 12 = .ok (.iconst 0, 1) := by decide +kernel
theorem dX12_consider_13 : decode cX12_consider 13 = .ok (.istore_n 3, 1) := by decide +kernel
theorem dX12_consider_14 : decode cX12_consider 14 = .ok (.iload_n 3, 1) := by decide +kernel
theorem dX12_consider_15 : decode cX12_consider 15 = .ok (.aload_n 0, 1) := by decide +kernel
theorem dX12_consider_16 : decode cX12_consider 16 = .ok (.getfield 207, 3) := by decide +kernel
theorem dX12_consider_19 : decode cX12_consider 19 = .ok (.if_icmp .ge 54, 3) := by decide +kernel
theorem dX12_consider_22 : decode cX12_consider 22 = .ok (.aload_n 0, 1) := by decide +kernel
theorem dX12_consider_23 : decode cX12_consider 23 = .ok (.aload_n 0, 1) := by decide +kernel
theorem dX12_consider_24 : decode cX12_consider 24 = .ok (.getfield 25, 3) := by decide +kernel
theorem dX12_consider_27 : decode cX12_consider 27 = .ok (.iload_n 3, 1) := by decide +kernel
theorem dX12_consider_28 : decode cX12_consider 28 = .ok (.iaload, 1) := by decide +kernel
theorem dX12_consider_29 : decode cX12_consider 29 = .ok (.invokevirtual 167, 3) := by decide +kernel
theorem dX12_consider_32 : decode cX12_consider 32 = .ok (.ifCond .eq 15, 3) := by decide +kernel
theorem dX12_consider_35 : decode cX12_consider 35 = .ok (.aload_n 0, 1) := by decide +kernel
theorem dX12_consider_36 : decode cX12_consider 36 = .ok (.iload_n 1, 1) := by decide +kernel
theorem dX12_consider_37 : decode cX12_consider 37 = .ok (.aload_n 0, 1) := by decide +kernel
theorem dX12_consider_38 : decode cX12_consider 38 = .ok (.getfield 25, 3) := by decide +kernel
theorem dX12_consider_41 : decode cX12_consider 41 = .ok (.iload_n 3, 1) := by decide +kernel
theorem dX12_consider_42 : decode cX12_consider 42 = .ok (.iaload, 1) := by decide +kernel
theorem dX12_consider_43 : decode cX12_consider 43 = .ok (.invokevirtual 220, 3) := by decide +kernel
theorem dX12_consider_46 : decode cX12_consider 46 = .ok (.return_, 1) := by decide +kernel
theorem dX12_consider_47 : decode cX12_consider 47 = .ok (.aload_n 0, 1) := by decide +kernel
theorem dX12_consider_48 : decode cX12_consider 48 = .ok (.aload_n 0, 1) := by decide +kernel
theorem dX12_consider_49 : decode cX12_consider 49 = .ok (.aload_n 0, 1) := by decide +kernel
theorem dX12_consider_50 : decode cX12_consider 50 = .ok (.getfield 9, 3) := by decide +kernel
theorem dX12_consider_53 : decode cX12_consider 53 = .ok (.iload_n 2, 1) := by decide +kernel
theorem dX12_consider_54 : decode cX12_consider 54 = .ok (.aload_n 0, 1) := by decide +kernel
theorem dX12_consider_55 : decode cX12_consider 55 = .ok (.getfield 25, 3) := by decide +kernel
theorem dX12_consider_58 : decode cX12_consider 58 = .ok (.iload_n 3, 1) := by decide +kernel
theorem dX12_consider_59 : decode cX12_consider 59 = .ok (.iaload, 1) := by decide +kernel
theorem dX12_consider_60 : decode cX12_consider 60 = .ok (.invokevirtual 81, 3) := by decide +kernel
theorem dX12_consider_63 : decode cX12_consider 63 = .ok (.iconst 4, 1) := by decide +kernel
theorem dX12_consider_64 : decode cX12_consider 64 = .ok (.invokevirtual 201, 3) := by decide +kernel
theorem dX12_consider_67 : decode cX12_consider 67 = .ok (.iinc 3 1, 3) := by decide +kernel
theorem dX12_consider_70 : decode cX12_consider 70 = .ok (.goto (-56), 3) := by decide +kernel
theorem dX12_consider_73 : decode cX12_consider 73 = .ok (.iconst 0, 1) := by decide +kernel
theorem dX12_consider_74 : decode cX12_consider 74 = .ok (.istore_n 3, 1) := by decide +kernel
theorem dX12_consider_75 : decode cX12_consider 75 = .ok (.iload_n 3, 1) := by decide +kernel
theorem dX12_consider_76 : decode cX12_consider 76 = .ok (.aload_n 0, 1) := by decide +kernel
theorem dX12_consider_77 : decode cX12_consider 77 = .ok (.getfield 207, 3) := by decide +kernel
theorem dX12_consider_80 : decode cX12_consider 80 = .ok (.if_icmp .ge 43, 3) := by decide +kernel
theorem dX12_consider_83 : decode cX12_consider 83 = .ok (.aload_n 0, 1) := by decide +kernel
theorem dX12_consider_84 : decode cX12_consider 84 = .ok (.iload_n 1, 1) := by decide +kernel
theorem dX12_consider_85 : decode cX12_consider 85 = .ok (.invokevirtual 210, 3) := by decide +kernel
theorem dX12_consider_88 : decode cX12_consider 88 = .ok (.ifCond .eq 35, 3) := by decide +kernel
theorem dX12_consider_91 : decode cX12_consider 91 = .ok (.aload_n 0, 1) := by decide +kernel
theorem dX12_consider_92 : decode cX12_consider 92 = .ok (.aload_n 0, 1) := by decide +kernel
theorem dX12_consider_93 : decode cX12_consider 93 = .ok (.getfield 25, 3) := by decide +kernel
theorem dX12_consider_96 : decode cX12_consider 96 = .ok (.iload_n 3, 1) := by decide +kernel
theorem dX12_consider_97 : decode cX12_consider 97 = .ok (.iaload, 1) := by decide +kernel
theorem dX12_consider_98 : decode cX12_consider 98 = .ok (.invokevirtual 186, 3) := by decide +kernel
theorem dX12_consider_101 : decode cX12_consider 101 = .ok (.ifCond .eq 16, 3) := by decide +kernel
theorem dX12_consider_104 : decode cX12_consider 104 = .ok (.aload_n 0, 1) := by decide +kernel
theorem dX12_consider_105 : decode cX12_consider 105 = .ok (.iload_n 1, 1) := by decide +kernel
theorem dX12_consider_106 : decode cX12_consider 106 = .ok (.aload_n 0, 1) := by decide +kernel
theorem dX12_consider_107 : decode cX12_consider 107 = .ok (.getfield 25, 3) := by decide +kernel
theorem dX12_consider_110 : decode cX12_consider 110 = .ok (.iload_n 3, 1) := by decide +kernel
theorem dX12_consider_111 : decode cX12_consider 111 = .ok (.iaload, 1) := by decide +kernel
theorem dX12_consider_112 : decode cX12_consider 112 = .ok (.iconst 0, 1) := by decide +kernel
theorem dX12_consider_113 : decode cX12_consider 113 = .ok (.invokevirtual 189, 3) := by decide +kernel
theorem dX12_consider_116 : decode cX12_consider 116 = .ok (.return_, 1) := by decide +kernel
theorem dX12_consider_117 : decode cX12_consider 117 = .ok (.iinc 3 1, 3) := by decide +kernel
theorem dX12_consider_120 : decode cX12_consider 120 = .ok (.goto (-45), 3) := by decide +kernel
theorem dX12_consider_123 : decode cX12_consider 123 = .ok (.return_, 1) := by decide +kernel
theorem dX12_moved_0 : decode cX12_moved 0 = .ok (.iconst 0, 1) := by decide +kernel
theorem dX12_moved_1 : decode cX12_moved 1 = .ok (.sipush 999, 3) := by decide +kernel
theorem dX12_moved_4 : decode cX12_moved 4 = .ok (.iload_n 0, 1) := by decide +kernel
theorem dX12_moved_5 : decode cX12_moved 5 = .ok (.iload_n 1, 1) := by decide +kernel
theorem dX12_moved_6 : decode cX12_moved 6 = .ok (.iadd, 1) := by decide +kernel
theorem dX12_moved_7 : decode cX12_moved 7 = .ok (.invokestatic 223, 3) := by decide +kernel
theorem dX12_moved_10 : decode cX12_moved 10 = .ok (.invokestatic 94, 3) := by decide +kernel
theorem dX12_moved_13 : decode cX12_moved 13 = .ok (.ireturn, 1) := by decide +kernel
theorem dX12_finish_0 : decode cX12_finish 0 = .ok (.aload_n 0, 1) := by decide +kernel
theorem dX12_finish_1 : decode cX12_finish 1 = .ok (.iload_n 1, 1) := by decide +kernel
theorem dX12_finish_2 : decode cX12_finish 2 = .ok (.bipush 6, 2) := by decide +kernel
theorem dX12_finish_4 : decode cX12_finish 4 = .ok (.aload_n 0, 1) := by decide +kernel
theorem dX12_finish_5 : decode cX12_finish 5 = .ok (.iload_n 1, 1) := by decide +kernel
theorem dX12_finish_6 : decode cX12_finish 6 = .ok (.bipush 6, 2) := by decide +kernel
theorem dX12_finish_8 : decode cX12_finish 8 = .ok (.invokevirtual 77, 3) := by decide +kernel
theorem dX12_finish_11 : decode cX12_finish 11 = .ok (.iconst 1, 1) := by decide +kernel
theorem dX12_finish_12 : decode cX12_finish 12 = .ok (.isub, 1) := by decide +kernel
theorem dX12_finish_13 : decode cX12_finish 13 = .ok (.invokevirtual 147, 3) := by decide +kernel
theorem dX12_finish_16 : decode cX12_finish 16 = .ok (.aload_n 0, 1) := by decide +kernel
theorem dX12_finish_17 : decode cX12_finish 17 = .ok (.iload_n 1, 1) := by decide +kernel
theorem dX12_finish_18 : decode cX12_finish 18 = .ok (.bipush 6, 2) := by decide +kernel
theorem dX12_finish_20 : decode cX12_finish 20 = .ok (.invokevirtual 77, 3) := by decide +kernel
theorem dX12_finish_23 : decode cX12_finish 23 = .ok (.ifCond .ne 13, 3) := by decide +kernel
theorem dX12_finish_26 : decode cX12_finish 26 = .ok (.aload_n 0, 1) := by decide +kernel
theorem dX12_finish_27 : decode cX12_finish 27 = .ok (.iload_n 1, 1) := by decide +kernel
theorem dX12_finish_28 : decode cX12_finish 28 = .ok (.invokevirtual 195, 3) := by decide +kernel
theorem dX12_finish_31 : decode cX12_finish 31 = .ok (.aload_n 0, 1) := by decide +kernel
theorem dX12_finish_32 : decode cX12_finish 32 = .ok (.iconst 2, 1) := by decide +kernel
theorem dX12_finish_33 : decode cX12_finish 33 = .ok (.invokevirtual 183, 3) := by decide +kernel
theorem dX12_finish_36 : decode cX12_finish 36 = .ok (.return_, 1) := by decide +kernel
theorem dX12_checkDrop_0 : decode cX12_checkDrop 0 = .ok (.aload_n 0, 1) := by decide +kernel
theorem dX12_checkDrop_1 : decode cX12_checkDrop 1 = .ok (.iload_n 1, 1) := by decide +kernel
theorem dX12_checkDrop_2 : decode cX12_checkDrop 2 = .ok (.aload_n 0, 1) := by decide +kernel
theorem dX12_checkDrop_3 : decode cX12_checkDrop 3 = .ok (.iload_n 1, 1) := by decide +kernel
theorem dX12_checkDrop_4 : decode cX12_checkDrop 4 = .ok (.iconst 5, 1) := by decide +kernel
theorem dX12_checkDrop_5 : decode cX12_checkDrop 5 = .ok (.invokevirtual 77, 3) := by decide +kernel
theorem dX12_checkDrop_8 : decode cX12_checkDrop 8 = .ok (.invokevirtual 204, 3) := by decide +kernel
theorem dX12_checkDrop_11 : decode cX12_checkDrop 11 = .ok (.aload_n 0, 1) := by decide +kernel
theorem dX12_checkDrop_12 : decode cX12_checkDrop 12 = .ok (.getfield 9, 3) := by decide +kernel
theorem dX12_checkDrop_15 : decode cX12_checkDrop 15 = .ok (.bipush 8, 2) := by decide +kernel
theorem dX12_checkDrop_17 : decode cX12_checkDrop 17 = .ok (.iaload, 1) := by decide +kernel
theorem dX12_checkDrop_18 : decode cX12_checkDrop 18 = .ok (.if_icmp .ge 7, 3) := by decide +kernel
theorem dX12_checkDrop_21 : decode cX12_checkDrop 21 = .ok (.iconst 1, 1) := by decide +kernel
theorem dX12_checkDrop_22 : decode cX12_checkDrop 22 = .ok (.goto 4, 3) := by decide +kernel
theorem dX12_checkDrop_25 : decode cX12_checkDrop 25 = .ok (.iconst 0, 1) := by decide +kernel
theorem dX12_checkDrop_26 : decode cX12_checkDrop 26 = .ok (.istore_n 2, 1) := by decide +kernel
theorem dX12_checkDrop_27 : decode cX12_checkDrop 27 = .ok (.aload_n 0, 1) := by decide +kernel
theorem dX12_checkDrop_28 : decode cX12_checkDrop 28 = .ok (.iload_n 1, 1) := by decide +kernel
theorem dX12_checkDrop_29 : decode cX12_checkDrop 29 = .ok (.bipush 7, 2) := by decide +kernel
theorem dX12_checkDrop_31 : decode cX12_checkDrop 31 = .ok (.iload_n 2, 1) := by decide +kernel
theorem dX12_checkDrop_32 : decode cX12_checkDrop 32 = .ok (.ifCond .eq 15, 3) := by decide +kernel
theorem dX12_checkDrop_35 : decode cX12_checkDrop 35 = .ok (.aload_n 0, 1) := by decide +kernel
theorem dX12_checkDrop_36 : decode cX12_checkDrop 36 = .ok (.iload_n 1, 1) := by decide +kernel
theorem dX12_checkDrop_37 : decode cX12_checkDrop 37 = .ok (.bipush 7, 2) := by decide +kernel
theorem dX12_checkDrop_39 : decode cX12_checkDrop 39 = .ok (.invokevirtual 77, 3) := by decide +kernel
theorem dX12_checkDrop_42 : decode cX12_checkDrop 42 = .ok (.iconst 1, 1) := by decide +kernel
theorem dX12_checkDrop_43 : decode cX12_checkDrop 43 = .ok (.iadd, 1) := by decide +kernel
theorem dX12_checkDrop_44 : decode cX12_checkDrop 44 = .ok (.goto 4, 3) := by decide +kernel
theorem dX12_checkDrop_47 : decode cX12_checkDrop 47 = .ok (.iconst 0, 1) := by decide +kernel
theorem dX12_checkDrop_48 : decode cX12_checkDrop 48 = .ok (.invokevirtual 147, 3) := by decide +kernel
theorem dX12_checkDrop_51 : decode cX12_checkDrop 51 = .ok (.aload_n 0, 1) := by decide +kernel
theorem dX12_checkDrop_52 : decode cX12_checkDrop 52 = .ok (.iload_n 1, 1) := by decide +kernel
theorem dX12_checkDrop_53 : decode cX12_checkDrop 53 = .ok (.bipush 7, 2) := by decide +kernel
theorem dX12_checkDrop_55 : decode cX12_checkDrop 55 = .ok (.invokevirtual 77, 3) := by decide +kernel
theorem dX12_checkDrop_58 : decode cX12_checkDrop 58 = .ok (.aload_n 0, 1) := by decide +kernel
theorem dX12_checkDrop_59 : decode cX12_checkDrop 59 = .ok (.getfield 9, 3) := by decide +kernel
theorem dX12_checkDrop_62 : decode cX12_checkDrop 62 = .ok (.bipush 9, 2) := by decide +kernel
theorem dX12_checkDrop_64 : decode cX12_checkDrop 64 = .ok (.iaload, 1) := by decide +kernel
theorem dX12_checkDrop_65 : decode cX12_checkDrop 65 = .ok (.if_icmp .lt 13, 3) := by decide +kernel
theorem dX12_checkDrop_68 : decode cX12_checkDrop 68 = .ok (.aload_n 0, 1) := by decide +kernel
theorem dX12_checkDrop_69 : decode cX12_checkDrop 69 = .ok (.iload_n 1, 1) := by decide +kernel
theorem dX12_checkDrop_70 : decode cX12_checkDrop 70 = .ok (.invokevirtual 195, 3) := by decide +kernel
theorem dX12_checkDrop_73 : decode cX12_checkDrop 73 = .ok (.aload_n 0, 1) := by decide +kernel
theorem dX12_checkDrop_74 : decode cX12_checkDrop 74 = .ok (.iconst 3, 1) := by decide +kernel
theorem dX12_checkDrop_75 : decode cX12_checkDrop 75 = .ok (.invokevirtual 183, 3) := by decide +kernel
theorem dX12_checkDrop_78 : decode cX12_checkDrop 78 = .ok (.return_, 1) := by decide +kernel
theorem dX12_serve_0 : decode cX12_serve 0 = .ok (.aload_n 0, 1) := by decide +kernel
theorem dX12_serve_1 : decode cX12_serve 1 = .ok (.iload_n 1, 1) := by decide +kernel
theorem dX12_serve_2 : decode cX12_serve 2 = .ok (.invokevirtual 167, 3) := by decide +kernel
theorem dX12_serve_5 : decode cX12_serve 5 = .ok (.ifCond .eq 52, 3) := by decide +kernel
theorem dX12_serve_8 : decode cX12_serve 8 = .ok (.aload_n 0, 1) := by decide +kernel
theorem dX12_serve_9 : decode cX12_serve 9 = .ok (.iload_n 1, 1) := by decide +kernel
theorem dX12_serve_10 : decode cX12_serve 10 = .ok (.invokevirtual 141, 3) := by decide +kernel
theorem dX12_serve_13 : decode cX12_serve 13 = .ok (.ifCond .le 44, 3) := by decide +kernel
theorem dX12_serve_16 : decode cX12_serve 16 = .ok (.aload_n 0, 1) := by decide +kernel
theorem dX12_serve_17 : decode cX12_serve 17 = .ok (.iload_n 1, 1) := by decide +kernel
theorem dX12_serve_18 : decode cX12_serve 18 = .ok (.iconst 0, 1) := by decide +kernel
theorem dX12_serve_19 : decode cX12_serve 19 = .ok (.invokevirtual 151, 3) := by decide +kernel
theorem dX12_serve_22 : decode cX12_serve 22 = .ok (.istore_n 2, 1) := by decide +kernel
theorem dX12_serve_23 : decode cX12_serve 23 = .ok (.aload_n 0, 1) := by decide +kernel
theorem dX12_serve_24 : decode cX12_serve 24 = .ok (.bipush 6, 2) := by decide +kernel
theorem dX12_serve_26 : decode cX12_serve 26 = .ok (.invokevirtual 183, 3) := by decide +kernel
theorem dX12_serve_29 : decode cX12_serve 29 = .ok (.aload_n 0, 1) := by decide +kernel
theorem dX12_serve_30 : decode cX12_serve 30 = .ok (.iload_n 2, 1) := by decide +kernel
theorem dX12_serve_31 : decode cX12_serve 31 = .ok (.bipush 9, 2) := by decide +kernel
theorem dX12_serve_33 : decode cX12_serve 33 = .ok (.invokevirtual 77, 3) := by decide +kernel
theorem dX12_serve_36 : decode cX12_serve 36 = .ok (.ifCond .ne 12, 3) := by decide +kernel
theorem dX12_serve_39 : decode cX12_serve 39 = .ok (.aload_n 0, 1) := by decide +kernel
theorem dX12_serve_40 : decode cX12_serve 40 = .ok (.iload_n 2, 1) := by decide +kernel
theorem dX12_serve_41 : decode cX12_serve 41 = .ok (.iload_n 1, 1) := by decide +kernel
theorem dX12_serve_42 : decode cX12_serve 42 = .ok (.invokevirtual 220, 3) := by decide +kernel
theorem dX12_serve_45 : decode cX12_serve 45 = .ok (.goto 9, 3) := by decide +kernel
theorem dX12_serve_48 : decode cX12_serve 48 = .ok (.aload_n 0, 1) := by decide +kernel
theorem dX12_serve_49 : decode cX12_serve 49 = .ok (.iload_n 2, 1) := by decide +kernel
theorem dX12_serve_50 : decode cX12_serve 50 = .ok (.iload_n 1, 1) := by decide +kernel
theorem dX12_serve_51 : decode cX12_serve 51 = .ok (.invokevirtual 176, 3) := by decide +kernel
theorem dX12_serve_54 : decode cX12_serve 54 = .ok (.goto (-54), 3) := by decide +kernel
theorem dX12_serve_57 : decode cX12_serve 57 = .ok (.return_, 1) := by decide +kernel
theorem dX12_expire_0 : decode cX12_expire 0 = .ok (.aload_n 0, 1) := by decide +kernel
theorem dX12_expire_1 : decode cX12_expire 1 = .ok (.iload_n 1, 1) := by decide +kernel
theorem dX12_expire_2 : decode cX12_expire 2 = .ok (.invokevirtual 226, 3) := by decide +kernel
theorem dX12_expire_5 : decode cX12_expire 5 = .ok (.ifCond .eq 27, 3) := by decide +kernel
theorem dX12_expire_8 : decode cX12_expire 8 = .ok (.aload_n 0, 1) := by decide +kernel
theorem dX12_expire_9 : decode cX12_expire 9 = .ok (.iload_n 1, 1) := by decide +kernel
theorem dX12_expire_10 : decode cX12_expire 10 = .ok (.bipush 10, 2) := by decide +kernel
theorem dX12_expire_12 : decode cX12_expire 12 = .ok (.invokevirtual 77, 3) := by decide +kernel
theorem dX12_expire_15 : decode cX12_expire 15 = .ok (.aload_n 0, 1) := by decide +kernel
theorem dX12_expire_16 : decode cX12_expire 16 = .ok (.getfield 9, 3) := by decide +kernel
theorem dX12_expire_19 : decode cX12_expire 19 = .ok (.bipush 7, 2) := by decide +kernel
theorem dX12_expire_21 : decode cX12_expire 21 = .ok (.iaload, 1) := by decide +kernel
theorem dX12_expire_22 : decode cX12_expire 22 = .ok (.iadd, 1) := by decide +kernel
theorem dX12_expire_23 : decode cX12_expire 23 = .ok (.aload_n 0, 1) := by decide +kernel
theorem dX12_expire_24 : decode cX12_expire 24 = .ok (.getfield 9, 3) := by decide +kernel
theorem dX12_expire_27 : decode cX12_expire 27 = .ok (.iconst 3, 1) := by decide +kernel
theorem dX12_expire_28 : decode cX12_expire 28 = .ok (.iaload, 1) := by decide +kernel
theorem dX12_expire_29 : decode cX12_expire 29 = .ok (.if_icmp .le 4, 3) := by decide +kernel
theorem dX12_expire_32 : decode cX12_expire 32 = .ok (.return_, 1) := by decide +kernel
theorem dX12_expire_33 : decode cX12_expire 33 = .ok (.aload_n 0, 1) := by decide +kernel
theorem dX12_expire_34 : decode cX12_expire 34 = .ok (.bipush 7, 2) := by decide +kernel
theorem dX12_expire_36 : decode cX12_expire 36 = .ok (.invokevirtual 183, 3) := by decide +kernel
theorem dX12_expire_39 : decode cX12_expire 39 = .ok (.aload_n 0, 1) := by decide +kernel
theorem dX12_expire_40 : decode cX12_expire 40 = .ok (.iload_n 1, 1) := by decide +kernel
theorem dX12_expire_41 : decode cX12_expire 41 = .ok (.iconst 4, 1) := by decide +kernel
theorem dX12_expire_42 : decode cX12_expire 42 = .ok (.invokevirtual 77, 3) := by decide +kernel
theorem dX12_expire_45 : decode cX12_expire 45 = .ok (.iconst 2, 1) := by decide +kernel
theorem dX12_expire_46 : decode cX12_expire 46 = .ok (.if_icmp .ne 16, 3) := by decide +kernel
theorem dX12_expire_49 : decode cX12_expire 49 = .ok (.aload_n 0, 1) := by decide +kernel
theorem dX12_expire_50 : decode cX12_expire 50 = .ok (.iload_n 1, 1) := by decide +kernel
theorem dX12_expire_51 : decode cX12_expire 51 = .ok (.invokevirtual 195, 3) := by decide +kernel
theorem dX12_expire_54 : decode cX12_expire 54 = .ok (.aload_n 0, 1) := by decide +kernel
theorem dX12_expire_55 : decode cX12_expire 55 = .ok (.iconst 4, 1) := by decide +kernel
theorem dX12_expire_56 : decode cX12_expire 56 = .ok (.invokevirtual 183, 3) := by decide +kernel
theorem dX12_expire_59 : decode cX12_expire 59 = .ok (.goto 8, 3) := by decide +kernel
theorem dX12_expire_62 : decode cX12_expire 62 = .ok (.aload_n 0, 1) := by decide +kernel
theorem dX12_expire_63 : decode cX12_expire 63 = .ok (.iload_n 1, 1) := by decide +kernel
theorem dX12_expire_64 : decode cX12_expire 64 = .ok (.invokevirtual 163, 3) := by decide +kernel
theorem dX12_expire_67 : decode cX12_expire 67 = .ok (.return_, 1) := by decide +kernel
theorem dX12_passTick_0 : decode cX12_passTick 0 = .ok (.aload_n 0, 1) := by decide +kernel
theorem dX12_passTick_1 : decode cX12_passTick 1 = .ok (.getfield 9, 3) := by decide +kernel
theorem dX12_passTick_4 : decode cX12_passTick 4 = .ok (.iconst 2, 1) := by decide +kernel
theorem dX12_passTick_5 : decode cX12_passTick 5 = .ok (.iaload, 1) := by decide +kernel
theorem dX12_passTick_6 : decode cX12_passTick 6 = .ok (.istore_n 1, 1) := by decide +kernel
theorem dX12_passTick_7 : decode cX12_passTick 7 = .ok (.iconst 0, 1) := by decide +kernel
theorem dX12_passTick_8 : decode cX12_passTick 8 = .ok (.istore_n 2, 1) := by decide +kernel
theorem dX12_passTick_9 : decode cX12_passTick 9 = .ok (.iload_n 2, 1) := by decide +kernel
theorem dX12_passTick_10 : decode cX12_passTick 10 = .ok (.iload_n 1, 1) := by decide +kernel
theorem dX12_passTick_11 : decode cX12_passTick 11 = .ok (.if_icmp .ge 51, 3) := by decide +kernel
theorem dX12_passTick_14 : decode cX12_passTick 14 = .ok (.aload_n 0, 1) := by decide +kernel
theorem dX12_passTick_15 : decode cX12_passTick 15 = .ok (.iload_n 2, 1) := by decide +kernel
theorem dX12_passTick_16 : decode cX12_passTick 16 = .ok (.iconst 0, 1) := by decide +kernel
theorem dX12_passTick_17 : decode cX12_passTick 17 = .ok (.aload_n 0, 1) := by decide +kernel
theorem dX12_passTick_18 : decode cX12_passTick 18 = .ok (.iload_n 2, 1) := by decide +kernel
theorem dX12_passTick_19 : decode cX12_passTick 19 = .ok (.iconst 0, 1) := by decide +kernel
theorem dX12_passTick_20 : decode cX12_passTick 20 = .ok (.invokevirtual 77, 3) := by decide +kernel
theorem dX12_passTick_23 : decode cX12_passTick 23 = .ok (.aload_n 0, 1) := by decide +kernel
theorem dX12_passTick_24 : decode cX12_passTick 24 = .ok (.iload_n 2, 1) := by decide +kernel
theorem dX12_passTick_25 : decode cX12_passTick 25 = .ok (.iconst 2, 1) := by decide +kernel
theorem dX12_passTick_26 : decode cX12_passTick 26 = .ok (.invokevirtual 77, 3) := by decide +kernel
theorem dX12_passTick_29 : decode cX12_passTick 29 = .ok (.invokestatic 229, 3) := by decide +kernel
theorem dX12_passTick_32 : decode cX12_passTick 32 = .ok (.invokevirtual 147, 3) := by decide +kernel
theorem dX12_passTick_35 : decode cX12_passTick 35 = .ok (.aload_n 0, 1) := by decide +kernel
theorem dX12_passTick_36 : decode cX12_passTick 36 = .ok (.iload_n 2, 1) := by decide +kernel
theorem dX12_passTick_37 : decode cX12_passTick 37 = .ok (.iconst 1, 1) := by decide +kernel
theorem dX12_passTick_38 : decode cX12_passTick 38 = .ok (.aload_n 0, 1) := by decide +kernel
theorem dX12_passTick_39 : decode cX12_passTick 39 = .ok (.iload_n 2, 1) := by decide +kernel
theorem dX12_passTick_40 : decode cX12_passTick 40 = .ok (.iconst 1, 1) := by decide +kernel
theorem dX12_passTick_41 : decode cX12_passTick 41 = .ok (.invokevirtual 77, 3) := by decide +kernel
theorem dX12_passTick_44 : decode cX12_passTick 44 = .ok (.aload_n 0, 1) := by decide +kernel
theorem dX12_passTick_45 : decode cX12_passTick 45 = .ok (.iload_n 2, 1) := by decide +kernel
theorem dX12_passTick_46 : decode cX12_passTick 46 = .ok (.iconst 3, 1) := by decide +kernel
theorem dX12_passTick_47 : decode cX12_passTick 47 = .ok (.invokevirtual 77, 3) := by decide +kernel
theorem dX12_passTick_50 : decode cX12_passTick 50 = .ok (.invokestatic 229, 3) := by decide +kernel
theorem dX12_passTick_53 : decode cX12_passTick 53 = .ok (.invokevirtual 147, 3) := by decide +kernel
theorem dX12_passTick_56 : decode cX12_passTick 56 = .ok (.iinc 2 1, 3) := by decide +kernel
theorem dX12_passTick_59 : decode cX12_passTick 59 = .ok (.goto (-50), 3) := by decide +kernel
theorem dX12_passTick_62 : decode cX12_passTick 62 = .ok (.iconst 0, 1) := by decide +kernel
theorem dX12_passTick_63 : decode cX12_passTick 63 = .ok (.istore_n 2, 1) := by decide +kernel
theorem dX12_passTick_64 : decode cX12_passTick 64 = .ok (.iload_n 2, 1) := by decide +kernel
theorem dX12_passTick_65 : decode cX12_passTick 65 = .ok (.iload_n 1, 1) := by decide +kernel
theorem dX12_passTick_66 : decode cX12_passTick 66 = .ok (.if_icmp .ge 22, 3) := by decide +kernel
theorem dX12_passTick_69 : decode cX12_passTick 69 = .ok (.aload_n 0, 1) := by decide +kernel
theorem dX12_passTick_70 : decode cX12_passTick 70 = .ok (.iload_n 2, 1) := by decide +kernel
theorem dX12_passTick_71 : decode cX12_passTick 71 = .ok (.invokevirtual 135, 3) := by decide +kernel
theorem dX12_passTick_74 : decode cX12_passTick 74 = .ok (.ifCond .eq 8, 3) := by decide +kernel
theorem dX12_passTick_77 : decode cX12_passTick 77 = .ok (.aload_n 0, 1) := by decide +kernel
theorem dX12_passTick_78 : decode cX12_passTick 78 = .ok (.iload_n 2, 1) := by decide +kernel
theorem dX12_passTick_79 : decode cX12_passTick 79 = .ok (.invokevirtual 232, 3) := by decide +kernel
theorem dX12_passTick_82 : decode cX12_passTick 82 = .ok (.iinc 2 1, 3) := by decide +kernel
theorem dX12_passTick_85 : decode cX12_passTick 85 = .ok (.goto (-21), 3) := by decide +kernel
theorem dX12_passTick_88 : decode cX12_passTick 88 = .ok (.iconst 0, 1) := by decide +kernel
theorem dX12_passTick_89 : decode cX12_passTick 89 = .ok (.istore_n 2, 1) := by decide +kernel
theorem dX12_passTick_90 : decode cX12_passTick 90 = .ok (.iload_n 2, 1) := by decide +kernel
theorem dX12_passTick_91 : decode cX12_passTick 91 = .ok (.iload_n 1, 1) := by decide +kernel
theorem dX12_passTick_92 : decode cX12_passTick 92 = .ok (.if_icmp .ge 22, 3) := by decide +kernel
theorem dX12_passTick_95 : decode cX12_passTick 95 = .ok (.aload_n 0, 1) := by decide +kernel
theorem dX12_passTick_96 : decode cX12_passTick 96 = .ok (.iload_n 2, 1) := by decide +kernel
theorem dX12_passTick_97 : decode cX12_passTick 97 = .ok (.invokevirtual 135, 3) := by decide +kernel
theorem dX12_passTick_100 : decode cX12_passTick 100 = .ok (.ifCond .eq 8, 3) := by decide +kernel
theorem dX12_passTick_103 : decode cX12_passTick 103 = .ok (.aload_n 0, 1) := by decide +kernel
theorem dX12_passTick_104 : decode cX12_passTick 104 = .ok (.iload_n 2, 1) := by decide +kernel
theorem dX12_passTick_105 : decode cX12_passTick 105 = .ok (.invokevirtual 235, 3) := by decide +kernel
theorem dX12_passTick_108 : decode cX12_passTick 108 = .ok (.iinc 2 1, 3) := by decide +kernel
theorem dX12_passTick_111 : decode cX12_passTick 111 = .ok (.goto (-21), 3) := by decide +kernel
theorem dX12_passTick_114 : decode cX12_passTick 114 = .ok (.iconst 0, 1) := by decide +kernel
theorem dX12_passTick_115 : decode cX12_passTick 115 = .ok (.istore_n 2, 1) := by decide +kernel
theorem dX12_passTick_116 : decode cX12_passTick 116 = .ok (.iload_n 2, 1) := by decide +kernel
theorem dX12_passTick_117 : decode cX12_passTick 117 = .ok (.iload_n 1, 1) := by decide +kernel
theorem dX12_passTick_118 : decode cX12_passTick 118 = .ok (.if_icmp .ge 22, 3) := by decide +kernel
theorem dX12_passTick_121 : decode cX12_passTick 121 = .ok (.aload_n 0, 1) := by decide +kernel
theorem dX12_passTick_122 : decode cX12_passTick 122 = .ok (.iload_n 2, 1) := by decide +kernel
theorem dX12_passTick_123 : decode cX12_passTick 123 = .ok (.invokevirtual 135, 3) := by decide +kernel
theorem dX12_passTick_126 : decode cX12_passTick 126 = .ok (.ifCond .eq 8, 3) := by decide +kernel
theorem dX12_passTick_129 : decode cX12_passTick 129 = .ok (.aload_n 0, 1) := by decide +kernel
theorem dX12_passTick_130 : decode cX12_passTick 130 = .ok (.iload_n 2, 1) := by decide +kernel
theorem dX12_passTick_131 : decode cX12_passTick 131 = .ok (.invokevirtual 238, 3) := by decide +kernel
theorem dX12_passTick_134 : decode cX12_passTick 134 = .ok (.iinc 2 1, 3) := by decide +kernel
theorem dX12_passTick_137 : decode cX12_passTick 137 = .ok (.goto (-21), 3) := by decide +kernel
theorem dX12_passTick_140 : decode cX12_passTick 140 = .ok (.iconst 0, 1) := by decide +kernel
theorem dX12_passTick_141 : decode cX12_passTick 141 = .ok (.istore_n 2, 1) := by decide +kernel
theorem dX12_passTick_142 : decode cX12_passTick 142 = .ok (.iload_n 2, 1) := by decide +kernel
theorem dX12_passTick_143 : decode cX12_passTick 143 = .ok (.aload_n 0, 1) := by decide +kernel
theorem dX12_passTick_144 : decode cX12_passTick 144 = .ok (.getfield 9, 3) := by decide +kernel
theorem dX12_passTick_147 : decode cX12_passTick 147 = .ok (.iconst 0, 1) := by decide +kernel
theorem dX12_passTick_148 : decode cX12_passTick 148 = .ok (.iaload, 1) := by decide +kernel
theorem dX12_passTick_149 : decode cX12_passTick 149 = .ok (.if_icmp .ge 14, 3) := by decide +kernel
theorem dX12_passTick_152 : decode cX12_passTick 152 = .ok (.aload_n 0, 1) := by decide +kernel
theorem dX12_passTick_153 : decode cX12_passTick 153 = .ok (.iload_n 2, 1) := by decide +kernel
theorem dX12_passTick_154 : decode cX12_passTick 154 = .ok (.invokevirtual 241, 3) := by decide +kernel
theorem dX12_passTick_157 : decode cX12_passTick 157 = .ok (.iinc 2 1, 3) := by decide +kernel
theorem dX12_passTick_160 : decode cX12_passTick 160 = .ok (.goto (-18), 3) := by decide +kernel
theorem dX12_passTick_163 : decode cX12_passTick 163 = .ok (.iconst 0, 1) := by decide +kernel
theorem dX12_passTick_164 : decode cX12_passTick 164 = .ok (.istore_n 2, 1) := by decide +kernel
theorem dX12_passTick_165 : decode cX12_passTick 165 = .ok (.iload_n 2, 1) := by decide +kernel
theorem dX12_passTick_166 : decode cX12_passTick 166 = .ok (.iload_n 1, 1) := by decide +kernel
theorem dX12_passTick_167 : decode cX12_passTick 167 = .ok (.if_icmp .ge 30, 3) := by decide +kernel
theorem dX12_passTick_170 : decode cX12_passTick 170 = .ok (.aload_n 0, 1) := by decide +kernel
theorem dX12_passTick_171 : decode cX12_passTick 171 = .ok (.iload_n 2, 1) := by decide +kernel
theorem dX12_passTick_172 : decode cX12_passTick 172 = .ok (.invokevirtual 135, 3) := by decide +kernel
theorem dX12_passTick_175 : decode cX12_passTick 175 = .ok (.ifCond .eq 16, 3) := by decide +kernel
theorem dX12_passTick_178 : decode cX12_passTick 178 = .ok (.aload_n 0, 1) := by decide +kernel
theorem dX12_passTick_179 : decode cX12_passTick 179 = .ok (.iload_n 2, 1) := by decide +kernel
theorem dX12_passTick_180 : decode cX12_passTick 180 = .ok (.invokevirtual 226, 3) := by decide +kernel
theorem dX12_passTick_183 : decode cX12_passTick 183 = .ok (.ifCond .ne 8, 3) := by decide +kernel
theorem dX12_passTick_186 : decode cX12_passTick 186 = .ok (.aload_n 0, 1) := by decide +kernel
theorem dX12_passTick_187 : decode cX12_passTick 187 = .ok (.iload_n 2, 1) := by decide +kernel
theorem dX12_passTick_188 : decode cX12_passTick 188 = .ok (.invokevirtual 244, 3) := by decide +kernel
theorem dX12_passTick_191 : decode cX12_passTick 191 = .ok (.iinc 2 1, 3) := by decide +kernel
theorem dX12_passTick_194 : decode cX12_passTick 194 = .ok (.goto (-29), 3) := by decide +kernel
theorem dX12_passTick_197 : decode cX12_passTick 197 = .ok (.iconst 0, 1) := by decide +kernel
theorem dX12_passTick_198 : decode cX12_passTick 198 = .ok (.istore_n 2, 1) := by decide +kernel
theorem dX12_passTick_199 : decode cX12_passTick 199 = .ok (.iload_n 2, 1) := by decide +kernel
theorem dX12_passTick_200 : decode cX12_passTick 200 = .ok (.aload_n 0, 1) := by decide +kernel
theorem dX12_passTick_201 : decode cX12_passTick 201 = .ok (.getfield 9, 3) := by decide +kernel
theorem dX12_passTick_204 : decode cX12_passTick 204 = .ok (.iconst 0, 1) := by decide +kernel
theorem dX12_passTick_205 : decode cX12_passTick 205 = .ok (.iaload, 1) := by decide +kernel
theorem dX12_passTick_206 : decode cX12_passTick 206 = .ok (.if_icmp .ge 40, 3) := by decide +kernel
theorem dX12_passTick_209 : decode cX12_passTick 209 = .ok (.aload_n 0, 1) := by decide +kernel
theorem dX12_passTick_210 : decode cX12_passTick 210 = .ok (.getfield 9, 3) := by decide +kernel
theorem dX12_passTick_213 : decode cX12_passTick 213 = .ok (.bipush 18, 2) := by decide +kernel
theorem dX12_passTick_215 : decode cX12_passTick 215 = .ok (.bipush 9, 2) := by decide +kernel
theorem dX12_passTick_217 : decode cX12_passTick 217 = .ok (.iload_n 2, 1) := by decide +kernel
theorem dX12_passTick_218 : decode cX12_passTick 218 = .ok (.imul, 1) := by decide +kernel
theorem dX12_passTick_219 : decode cX12_passTick 219 = .ok (.iadd, 1) := by decide +kernel
theorem dX12_passTick_220 : decode cX12_passTick 220 = .ok (.bipush 8, 2) := by decide +kernel
theorem dX12_passTick_222 : decode cX12_passTick 222 = .ok (.iadd, 1) := by decide +kernel
theorem dX12_passTick_223 : decode cX12_passTick 223 = .ok (.dup2, 1) := by decide +kernel
theorem dX12_passTick_224 : decode cX12_passTick 224 = .ok (.iaload, 1) := by decide +kernel
theorem dX12_passTick_225 : decode cX12_passTick 225 = .ok (.aload_n 0, 1) := by decide +kernel
theorem dX12_passTick_226 : decode cX12_passTick 226 = .ok (.iload_n 2, 1) := by decide +kernel
theorem dX12_passTick_227 : decode cX12_passTick 227 = .ok (.invokevirtual 167, 3) := by decide +kernel
theorem dX12_passTick_230 : decode cX12_passTick 230 = .ok (.ifCond .eq 7, 3) := by decide +kernel
theorem dX12_passTick_233 : decode cX12_passTick 233 = .ok (.iconst 0, 1) := by decide +kernel
theorem dX12_passTick_234 : decode cX12_passTick 234 = .ok (.goto 4, 3) := by decide +kernel
theorem dX12_passTick_237 : decode cX12_passTick 237 = .ok (.iconst 1, 1) := by decide +kernel
theorem dX12_passTick_238 : decode cX12_passTick 238 = .ok (.iadd, 1) := by decide +kernel
theorem dX12_passTick_239 : decode cX12_passTick 239 = .ok (.iastore, 1) := by decide +kernel
theorem dX12_passTick_240 : decode cX12_passTick 240 = .ok (.iinc 2 1, 3) := by decide +kernel
theorem dX12_passTick_243 : decode cX12_passTick 243 = .ok (.goto (-44), 3) := by decide +kernel
theorem dX12_passTick_246 : decode cX12_passTick 246 = .ok (.iconst 0, 1) := by decide +kernel
theorem dX12_passTick_247 : decode cX12_passTick 247 = .ok (.istore_n 2, 1) := by decide +kernel
theorem dX12_passTick_248 : decode cX12_passTick 248 = .ok (.iload_n 2, 1) := by decide +kernel
theorem dX12_passTick_249 : decode cX12_passTick 249 = .ok (.iload_n 1, 1) := by decide +kernel
theorem dX12_passTick_250 : decode cX12_passTick 250 = .ok (.if_icmp .ge 14, 3) := by decide +kernel
theorem dX12_passTick_253 : decode cX12_passTick 253 = .ok (.aload_n 0, 1) := by decide +kernel
theorem dX12_passTick_254 : decode cX12_passTick 254 = .ok (.iload_n 2, 1) := by decide +kernel
theorem dX12_passTick_255 : decode cX12_passTick 255 = .ok (.invokevirtual 247, 3) := by decide +kernel
theorem dX12_passTick_258 : decode cX12_passTick 258 = .ok (.iinc 2 1, 3) := by decide +kernel
theorem dX12_passTick_261 : decode cX12_passTick 261 = .ok (.goto (-13), 3) := by decide +kernel
theorem dX12_passTick_264 : decode cX12_passTick 264 = .ok (.aload_n 0, 1) := by decide +kernel
theorem dX12_passTick_265 : decode cX12_passTick 265 = .ok (.getfield 9, 3) := by decide +kernel
theorem dX12_passTick_268 : decode cX12_passTick 268 = .ok (.iconst 3, 1) := by decide +kernel
theorem dX12_passTick_269 : decode cX12_passTick 269 = .ok (.dup2, 1) := by decide +kernel
theorem dX12_passTick_270 : decode cX12_passTick 270 = .ok (.iaload, 1) := by decide +kernel
theorem dX12_passTick_271 : decode cX12_passTick 271 = .ok (.iconst 1, 1) := by decide +kernel
theorem dX12_passTick_272 : decode cX12_passTick 272 = .ok (.iadd, 1) := by decide +kernel
theorem dX12_passTick_273 : decode cX12_passTick 273 = .ok (.iastore, 1) := by decide +kernel
theorem dX12_passTick_274 : decode cX12_passTick 274 = .ok (.return_, 1) := by decide +kernel
theorem dX12_canRun_0 : decode cX12_canRun 0 = .ok (.iload_n 1, 1) := by decide +kernel
theorem dX12_canRun_1 : decode cX12_canRun 1 = .ok (.iconst 0, 1) := by decide +kernel
theorem dX12_canRun_2 : decode cX12_canRun 2 = .ok (.iload_n 2, 1) := by decide +kernel
theorem dX12_canRun_3 : decode cX12_canRun 3 = .ok (.invokestatic 73, 3) := by decide +kernel
theorem dX12_canRun_6 : decode cX12_canRun 6 = .ok (.ifCond .eq 20, 3) := by decide +kernel
theorem dX12_canRun_9 : decode cX12_canRun 9 = .ok (.aload_n 0, 1) := by decide +kernel
theorem dX12_canRun_10 : decode cX12_canRun 10 = .ok (.getfield 9, 3) := by decide +kernel
theorem dX12_canRun_13 : decode cX12_canRun 13 = .ok (.iconst 3, 1) := by decide +kernel
theorem dX12_canRun_14 : decode cX12_canRun 14 = .ok (.iaload, 1) := by decide +kernel
theorem dX12_canRun_15 : decode cX12_canRun 15 = .ok (.iload_n 1, 1) := by decide +kernel
theorem dX12_canRun_16 : decode cX12_canRun 16 = .ok (.iadd, 1) := by decide +kernel
theorem dX12_canRun_17 : decode cX12_canRun 17 = .ok (.ldc 250, 2) := by decide +kernel
theorem dX12_canRun_19 : decode cX12_canRun 19 = .ok (.if_icmp .gt 7, 3) := by decide +kernel
theorem dX12_canRun_22 : decode cX12_canRun 22 = .ok (.iconst 1, 1) := by decide +kernel
theorem dX12_canRun_23 : decode cX12_canRun 23 = .ok (.goto 4, 3) := by decide +kernel
theorem dX12_canRun_26 : decode cX12_canRun 26 = .ok (.iconst 0, 1) := by decide +kernel
theorem dX12_canRun_27 : decode cX12_canRun 27 = .ok (.ireturn, 1) := by decide +kernel
theorem dX12_pass_0 : decode cX12_pass 0 = .ok (.iconst 0, 1) := by decide +kernel
theorem dX12_pass_1 : decode cX12_pass 1 = .ok (.istore_n 2, 1) := by decide +kernel
theorem dX12_pass_2 : decode cX12_pass 2 = .ok (.iload_n 2, 1) := by decide +kernel
theorem dX12_pass_3 : decode cX12_pass 3 = .ok (.iload_n 1, 1) := by decide +kernel
theorem dX12_pass_4 : decode cX12_pass 4 = .ok (.if_icmp .ge 13, 3) := by decide +kernel
theorem dX12_pass_7 : decode cX12_pass 7 = .ok (.aload_n 0, 1) := by decide +kernel
theorem dX12_pass_8 : decode cX12_pass 8 = .ok (.invokevirtual 251, 3) := by decide +kernel
theorem dX12_pass_11 : decode cX12_pass 11 = .ok (.iinc 2 1, 3) := by decide +kernel
theorem dX12_pass_14 : decode cX12_pass 14 = .ok (.goto (-12), 3) := by decide +kernel
theorem dX12_pass_17 : decode cX12_pass 17 = .ok (.return_, 1) := by decide +kernel
theorem dX12_run_0 : decode cX12_run 0 = .ok (.aload_n 0, 1) := by decide +kernel
theorem dX12_run_1 : decode cX12_run 1 = .ok (.iconst 0, 1) := by decide +kernel
theorem dX12_run_2 : decode cX12_run 2 = .ok (.putfield 70, 3) := by decide +kernel
theorem dX12_run_5 : decode cX12_run 5 = .ok (.aload_n 0, 1) := by decide +kernel
theorem dX12_run_6 : decode cX12_run 6 = .ok (.iload_n 1, 1) := by decide +kernel
theorem dX12_run_7 : decode cX12_run 7 = .ok (.bipush 60, 2) := by decide +kernel
theorem dX12_run_9 : decode cX12_run 9 = .ok (.invokevirtual 254, 3) := by decide +kernel
theorem dX12_run_12 : decode cX12_run 12 = .ok (.ifCond .ne 9, 3) := by decide +kernel
theorem dX12_run_15 : decode cX12_run 15 = .ok (.aload_n 0, 1) := by decide +kernel
theorem dX12_run_16 : decode cX12_run 16 = .ok (.iconst 1, 1) := by decide +kernel
theorem dX12_run_17 : decode cX12_run 17 = .ok (.invokevirtual 108, 3) := by decide +kernel
theorem dX12_run_20 : decode cX12_run 20 = .ok (.ireturn, 1) := by decide +kernel
theorem dX12_run_21 : decode cX12_run 21 = .ok (.aload_n 0, 1) := by decide +kernel
theorem dX12_run_22 : decode cX12_run 22 = .ok (.invokevirtual 173, 3) := by decide +kernel
theorem dX12_run_25 : decode cX12_run 25 = .ok (.aload_n 0, 1) := by decide +kernel
theorem dX12_run_26 : decode cX12_run 26 = .ok (.getfield 9, 3) := by decide +kernel
theorem dX12_run_29 : decode cX12_run 29 = .ok (.bipush 10, 2) := by decide +kernel
theorem dX12_run_31 : decode cX12_run 31 = .ok (.iaload, 1) := by decide +kernel
theorem dX12_run_32 : decode cX12_run 32 = .ok (.istore_n 2, 1) := by decide +kernel
theorem dX12_run_33 : decode cX12_run 33 = .ok (.aload_n 0, 1) := by decide +kernel
theorem dX12_run_34 : decode cX12_run 34 = .ok (.iload_n 1, 1) := by decide +kernel
theorem dX12_run_35 : decode cX12_run 35 = .ok (.invokevirtual 257, 3) := by decide +kernel
theorem dX12_run_38 : decode cX12_run 38 = .ok (.aload_n 0, 1) := by decide +kernel
theorem dX12_run_39 : decode cX12_run 39 = .ok (.getfield 9, 3) := by decide +kernel
theorem dX12_run_42 : decode cX12_run 42 = .ok (.bipush 10, 2) := by decide +kernel
theorem dX12_run_44 : decode cX12_run 44 = .ok (.iaload, 1) := by decide +kernel
theorem dX12_run_45 : decode cX12_run 45 = .ok (.iload_n 2, 1) := by decide +kernel
theorem dX12_run_46 : decode cX12_run 46 = .ok (.isub, 1) := by decide +kernel
theorem dX12_run_47 : decode cX12_run 47 = .ok (.ireturn, 1) := by decide +kernel
theorem dX12_isSpeed_0 : decode cX12_isSpeed 0 = .ok (.iload_n 0, 1) := by decide +kernel
theorem dX12_isSpeed_1 : decode cX12_isSpeed 1 = .ok (.bipush (-99), 2) := by decide +kernel
theorem dX12_isSpeed_3 : decode cX12_isSpeed 3 = .ok (.bipush 99, 2) := by decide +kernel
theorem dX12_isSpeed_5 : decode cX12_isSpeed 5 = .ok (.invokestatic 73, 3) := by decide +kernel
theorem dX12_isSpeed_8 : decode cX12_isSpeed 8 = .ok (.ireturn, 1) := by decide +kernel
theorem dX12_addMobile_0 : decode cX12_addMobile 0 = .ok (.aload_n 0, 1) := by decide +kernel
theorem dX12_addMobile_1 : decode cX12_addMobile 1 = .ok (.iconst 0, 1) := by decide +kernel
theorem dX12_addMobile_2 : decode cX12_addMobile 2 = .ok (.putfield 70, 3) := by decide +kernel
theorem dX12_addMobile_5 : decode cX12_addMobile 5 = .ok (.iload_n 1, 1) := by decide +kernel
theorem dX12_addMobile_6 : decode cX12_addMobile 6 = .ok (.invokestatic 111, 3) := by decide +kernel
theorem dX12_addMobile_9 : decode cX12_addMobile 9 = .ok (.ifCond .eq 25, 3) := by decide +kernel
theorem dX12_addMobile_12 : decode cX12_addMobile 12 = .ok (.iload_n 2, 1) := by decide +kernel
theorem dX12_addMobile_13 : decode cX12_addMobile 13 = .ok (.invokestatic 111, 3) := by decide +kernel
theorem dX12_addMobile_16 : decode cX12_addMobile 16 = .ok (.ifCond .eq 18, 3) := by decide +kernel
theorem dX12_addMobile_19 : decode cX12_addMobile 19 = .ok (.iload_n 3, 1) := by decide +kernel
theorem dX12_addMobile_20 : decode cX12_addMobile 20 = .ok (.invokestatic 260, 3) := by decide +kernel
theorem dX12_addMobile_23 : decode cX12_addMobile 23 = .ok (.ifCond .eq 11, 3) := by decide +kernel
theorem dX12_addMobile_26 : decode cX12_addMobile 26 = .ok (.iload 4, 2) := by decide +kernel
theorem dX12_addMobile_28 : decode cX12_addMobile 28 = .ok (.invokestatic 260, 3) := by decide +kernel
theorem dX12_addMobile_31 : decode cX12_addMobile 31 = .ok (.ifCond .ne 9, 3) := by decide +kernel
theorem dX12_addMobile_34 : decode cX12_addMobile 34 = .ok (.aload_n 0, 1) := by decide +kernel
theorem dX12_addMobile_35 : decode cX12_addMobile 35 = .ok (.iconst 1, 1) := by decide +kernel
theorem dX12_addMobile_36 : decode cX12_addMobile 36 = .ok (.invokevirtual 108, 3) := by decide +kernel
theorem dX12_addMobile_39 : decode cX12_addMobile 39 = .ok (.ireturn, 1) := by decide +kernel
theorem dX12_addMobile_40 : decode cX12_addMobile 40 = .ok (.aload_n 0, 1) := by decide +kernel
theorem dX12_addMobile_41 : decode cX12_addMobile 41 = .ok (.getfield 9, 3) := by decide +kernel
theorem dX12_addMobile_44 : decode cX12_addMobile 44 = .ok (.iconst 2, 1) := by decide +kernel
theorem dX12_addMobile_45 : decode cX12_addMobile 45 = .ok (.iaload, 1) := by decide +kernel
theorem dX12_addMobile_46 : decode cX12_addMobile 46 = .ok (.bipush 12, 2) := by decide +kernel
theorem dX12_addMobile_48 : decode cX12_addMobile 48 = .ok (.if_icmp .ne 6, 3) := by decide +kernel
theorem dX12_addMobile_51 : decode cX12_addMobile 51 = .ok (.bipush (-2), 2) := by decide +kernel
theorem dX12_addMobile_53 : decode cX12_addMobile 53 = .ok (.ireturn, 1) := by decide +kernel
theorem dX12_addMobile_54 : decode cX12_addMobile 54 = .ok (.aload_n 0, 1) := by decide +kernel
theorem dX12_addMobile_55 : decode cX12_addMobile 55 = .ok (.invokevirtual 173, 3) := by decide +kernel
theorem dX12_addMobile_58 : decode cX12_addMobile 58 = .ok (.aload_n 0, 1) := by decide +kernel
theorem dX12_addMobile_59 : decode cX12_addMobile 59 = .ok (.getfield 9, 3) := by decide +kernel
theorem dX12_addMobile_62 : decode cX12_addMobile 62 = .ok (.iconst 2, 1) := by decide +kernel
theorem dX12_addMobile_63 : decode cX12_addMobile 63 = .ok (.iaload, 1) := by decide +kernel
theorem dX12_addMobile_64 : decode cX12_addMobile 64 = .ok (.istore 5, 2) := by decide +kernel
theorem dX12_addMobile_66 : decode cX12_addMobile 66 = .ok (.aload_n 0, 1) := by decide +kernel
theorem dX12_addMobile_67 : decode cX12_addMobile 67 = .ok (.getfield 9, 3) := by decide +kernel
theorem dX12_addMobile_70 : decode cX12_addMobile 70 = .ok (.iconst 2, 1) := by decide +kernel
theorem dX12_addMobile_71 : decode cX12_addMobile 71 = .ok (.dup2, 1) := by decide +kernel
theorem dX12_addMobile_72 : decode cX12_addMobile 72 = .ok (.iaload, 1) := by decide +kernel
theorem dX12_addMobile_73 : decode cX12_addMobile 73 = .ok (.iconst 1, 1) := by decide +kernel
theorem dX12_addMobile_74 : decode cX12_addMobile 74 = .ok (.iadd, 1) := by decide +kernel
theorem dX12_addMobile_75 : decode cX12_addMobile 75 = .ok (.iastore, 1) := by decide +kernel
theorem dX12_addMobile_76 : decode cX12_addMobile 76 = .ok (.iconst 0, 1) := by decide +kernel
theorem dX12_addMobile_77 : decode cX12_addMobile 77 = .ok (.istore 6, 2) := by decide +kernel
theorem dX12_addMobile_79 : decode cX12_addMobile 79 = .ok (.iload 6, 2) := by decide +kernel
theorem dX12_addMobile_81 : decode cX12_addMobile 81 = .ok (.bipush 91, 2) := by decide +kernel
theorem dX12_addMobile_83 : decode cX12_addMobile 83 = .ok (.if_icmp .ge 18, 3) := by decide +kernel
theorem dX12_addMobile_86 : decode cX12_addMobile 86 = .ok (.aload_n 0, 1) := by decide +kernel
theorem dX12_addMobile_87 : decode cX12_addMobile 87 = .ok (.iload 5, 2) := by decide +kernel
theorem dX12_addMobile_89 : decode cX12_addMobile 89 = .ok (.iload 6, 2) := by decide +kernel
theorem dX12_addMobile_91 : decode cX12_addMobile 91 = .ok (.iconst 0, 1) := by decide +kernel
theorem dX12_addMobile_92 : decode cX12_addMobile 92 = .ok (.invokevirtual 147, 3) := by decide +kernel
theorem dX12_addMobile_95 : decode cX12_addMobile 95 = .ok (.iinc 6 1, 3) := by decide +kernel
theorem dX12_addMobile_98 : decode cX12_addMobile 98 = .ok (.goto (-19), 3) := by decide +kernel
theorem dX12_addMobile_101 : decode cX12_addMobile 101 = .ok (.aload_n 0, 1) := by decide +kernel
theorem dX12_addMobile_102 : decode cX12_addMobile 102 = .ok (.iload 5, 2) := by decide +kernel
theorem dX12_addMobile_104 : decode cX12_addMobile 104 = .ok (.iconst 0, 1) := by decide +kernel
theorem dX12_addMobile_105 : decode cX12_addMobile 105 = .ok (.iload_n 1, 1) := by decide +kernel
theorem dX12_addMobile_106 : decode cX12_addMobile 106 = .ok (.invokevirtual 147, 3) := by decide +kernel
theorem dX12_addMobile_109 : decode cX12_addMobile 109 = .ok (.aload_n 0, 1) := by decide +kernel
theorem dX12_addMobile_110 : decode cX12_addMobile 110 = .ok (.iload 5, 2) := by decide +kernel
theorem dX12_addMobile_112 : decode cX12_addMobile 112 = .ok (.iconst 1, 1) := by decide +kernel
theorem dX12_addMobile_113 : decode cX12_addMobile 113 = .ok (.iload_n 2, 1) := by decide +kernel
theorem dX12_addMobile_114 : decode cX12_addMobile 114 = .ok (.invokevirtual 147, 3) := by decide +kernel
theorem dX12_addMobile_117 : decode cX12_addMobile 117 = .ok (.aload_n 0, 1) := by decide +kernel
theorem dX12_addMobile_118 : decode cX12_addMobile 118 = .ok (.iload 5, 2) := by decide +kernel
theorem dX12_addMobile_120 : decode cX12_addMobile 120 = .ok (.iconst 2, 1) := by decide +kernel
theorem dX12_addMobile_121 : decode cX12_addMobile 121 = .ok (.iload_n 3, 1) := by decide +kernel
theorem dX12_addMobile_122 : decode cX12_addMobile 122 = .ok (.invokevirtual 147, 3) := by decide +kernel
theorem dX12_addMobile_125 : decode cX12_addMobile 125 = .ok (.aload_n 0, 1) := by decide +kernel
theorem dX12_addMobile_126 : decode cX12_addMobile 126 = .ok (.iload 5, 2) := by decide +kernel
theorem dX12_addMobile_128 : decode cX12_addMobile 128 = .ok (.iconst 3, 1) := by decide +kernel
theorem dX12_addMobile_129 : decode cX12_addMobile 129 = .ok (.iload 4, 2) := by decide +kernel
theorem dX12_addMobile_131 : decode cX12_addMobile 131 = .ok (.invokevirtual 147, 3) := by decide +kernel
theorem dX12_addMobile_134 : decode cX12_addMobile 134 = .ok (.aload_n 0, 1) := by decide +kernel
theorem dX12_addMobile_135 : decode cX12_addMobile 135 = .ok (.iload 5, 2) := by decide +kernel
theorem dX12_addMobile_137 : decode cX12_addMobile 137 = .ok (.invokevirtual 195, 3) := by decide +kernel
theorem dX12_addMobile_140 : decode cX12_addMobile 140 = .ok (.iload 5, 2) := by decide +kernel
theorem dX12_addMobile_142 : decode cX12_addMobile 142 = .ok (.ireturn, 1) := by decide +kernel
theorem dX12_setVelocity_0 : decode cX12_setVelocity 0 = .ok (.aload_n 0, 1) := by decide +kernel
theorem dX12_setVelocity_1 : decode cX12_setVelocity 1 = .ok (.iload_n 1, 1) := by decide +kernel
theorem dX12_setVelocity_2 : decode cX12_setVelocity 2 = .ok (.iconst 4, 1) := by decide +kernel
theorem dX12_setVelocity_3 : decode cX12_setVelocity 3 = .ok (.invokevirtual 192, 3) := by decide +kernel
theorem dX12_setVelocity_6 : decode cX12_setVelocity 6 = .ok (.istore 4, 2) := by decide +kernel
theorem dX12_setVelocity_8 : decode cX12_setVelocity 8 = .ok (.aload_n 0, 1) := by decide +kernel
theorem dX12_setVelocity_9 : decode cX12_setVelocity 9 = .ok (.getfield 70, 3) := by decide +kernel
theorem dX12_setVelocity_12 : decode cX12_setVelocity 12 = .ok (.ifCond .le 5, 3) := by decide +kernel
theorem dX12_setVelocity_15 : decode cX12_setVelocity 15 = .ok (.iconst 0, 1) := by decide +kernel
theorem dX12_setVelocity_16 : decode cX12_setVelocity 16 = .ok (.ireturn, 1) := by decide +kernel
theorem dX12_setVelocity_17 : decode cX12_setVelocity 17 = .ok (.iload_n 2, 1) := by decide +kernel
theorem dX12_setVelocity_18 : decode cX12_setVelocity 18 = .ok (.invokestatic 260, 3) := by decide +kernel
theorem dX12_setVelocity_21 : decode cX12_setVelocity 21 = .ok (.ifCond .eq 10, 3) := by decide +kernel
theorem dX12_setVelocity_24 : decode cX12_setVelocity 24 = .ok (.iload_n 3, 1) := by decide +kernel
theorem dX12_setVelocity_25 : decode cX12_setVelocity 25 = .ok (.invokestatic 260, 3) := by decide +kernel
theorem dX12_setVelocity_28 : decode cX12_setVelocity 28 = .ok (.ifCond .ne 9, 3) := by decide +kernel
theorem dX12_setVelocity_31 : decode cX12_setVelocity 31 = .ok (.aload_n 0, 1) := by decide +kernel
theorem dX12_setVelocity_32 : decode cX12_setVelocity 32 = .ok (.iconst 2, 1) := by decide +kernel
theorem dX12_setVelocity_33 : decode cX12_setVelocity 33 = .ok (.invokevirtual 108, 3) := by decide +kernel
theorem dX12_setVelocity_36 : decode cX12_setVelocity 36 = .ok (.ireturn, 1) := by decide +kernel
theorem dX12_setVelocity_37 : decode cX12_setVelocity 37 = .ok (.aload_n 0, 1) := by decide +kernel
theorem dX12_setVelocity_38 : decode cX12_setVelocity 38 = .ok (.invokevirtual 173, 3) := by decide +kernel
theorem dX12_setVelocity_41 : decode cX12_setVelocity 41 = .ok (.aload_n 0, 1) := by decide +kernel
theorem dX12_setVelocity_42 : decode cX12_setVelocity 42 = .ok (.iload_n 1, 1) := by decide +kernel
theorem dX12_setVelocity_43 : decode cX12_setVelocity 43 = .ok (.iconst 2, 1) := by decide +kernel
theorem dX12_setVelocity_44 : decode cX12_setVelocity 44 = .ok (.iload_n 2, 1) := by decide +kernel
theorem dX12_setVelocity_45 : decode cX12_setVelocity 45 = .ok (.invokevirtual 147, 3) := by decide +kernel
theorem dX12_setVelocity_48 : decode cX12_setVelocity 48 = .ok (.aload_n 0, 1) := by decide +kernel
theorem dX12_setVelocity_49 : decode cX12_setVelocity 49 = .ok (.iload_n 1, 1) := by decide +kernel
theorem dX12_setVelocity_50 : decode cX12_setVelocity 50 = .ok (.iconst 3, 1) := by decide +kernel
theorem dX12_setVelocity_51 : decode cX12_setVelocity 51 = .ok (.iload_n 3, 1) := by decide +kernel
theorem dX12_setVelocity_52 : decode cX12_setVelocity 52 = .ok (.invokevirtual 147, 3) := by decide +kernel
theorem dX12_setVelocity_55 : decode cX12_setVelocity 55 = .ok (.iload 4, 2) := by decide +kernel
theorem dX12_setVelocity_57 : decode cX12_setVelocity 57 = .ok (.ireturn, 1) := by decide +kernel
theorem dX12_setHysteresis_0 : decode cX12_setHysteresis 0 = .ok (.aload_n 0, 1) := by decide +kernel
theorem dX12_setHysteresis_1 : decode cX12_setHysteresis 1 = .ok (.iload_n 1, 1) := by decide +kernel
theorem dX12_setHysteresis_2 : decode cX12_setHysteresis 2 = .ok (.iload_n 2, 1) := by decide +kernel
theorem dX12_setHysteresis_3 : decode cX12_setHysteresis 3 = .ok (.iconst 2, 1) := by decide +kernel
theorem dX12_setHysteresis_4 : decode cX12_setHysteresis 4 = .ok (.bipush (-2), 2) := by decide +kernel
theorem dX12_setHysteresis_6 : decode cX12_setHysteresis 6 = .ok (.invokevirtual 131, 3) := by decide +kernel
theorem dX12_setHysteresis_9 : decode cX12_setHysteresis 9 = .ok (.istore 4, 2) := by decide +kernel
theorem dX12_setHysteresis_11 : decode cX12_setHysteresis 11 = .ok (.aload_n 0, 1) := by decide +kernel
theorem dX12_setHysteresis_12 : decode cX12_setHysteresis 12 = .ok (.getfield 70, 3) := by decide +kernel
theorem dX12_setHysteresis_15 : decode cX12_setHysteresis 15 = .ok (.ifCond .le 5, 3) := by decide +kernel
theorem dX12_setHysteresis_18 : decode cX12_setHysteresis 18 = .ok (.iconst 0, 1) := by decide +kernel
theorem dX12_setHysteresis_19 : decode cX12_setHysteresis 19 = .ok (.ireturn, 1) := by decide +kernel
theorem dX12_setHysteresis_20 : decode cX12_setHysteresis 20 = .ok (.iload_n 3, 1) := by decide +kernel
theorem dX12_setHysteresis_21 : decode cX12_setHysteresis 21 = .ok (.iconst 0, 1) := by decide +kernel
theorem dX12_setHysteresis_22 : decode cX12_setHysteresis 22 = .ok (.bipush 30, 2) := by decide +kernel
theorem dX12_setHysteresis_24 : decode cX12_setHysteresis 24 = .ok (.invokestatic 73, 3) := by decide +kernel
theorem dX12_setHysteresis_27 : decode cX12_setHysteresis 27 = .ok (.ifCond .ne 9, 3) := by decide +kernel
theorem dX12_setHysteresis_30 : decode cX12_setHysteresis 30 = .ok (.aload_n 0, 1) := by decide +kernel
theorem dX12_setHysteresis_31 : decode cX12_setHysteresis 31 = .ok (.iconst 2, 1) := by decide +kernel
theorem dX12_setHysteresis_32 : decode cX12_setHysteresis 32 = .ok (.invokevirtual 108, 3) := by decide +kernel
theorem dX12_setHysteresis_35 : decode cX12_setHysteresis 35 = .ok (.ireturn, 1) := by decide +kernel
theorem dX12_setHysteresis_36 : decode cX12_setHysteresis 36 = .ok (.iload 4, 2) := by decide +kernel
theorem dX12_setHysteresis_38 : decode cX12_setHysteresis 38 = .ok (.bipush (-2), 2) := by decide +kernel
theorem dX12_setHysteresis_40 : decode cX12_setHysteresis 40 = .ok (.if_icmp .ne 6, 3) := by decide +kernel
theorem dX12_setHysteresis_43 : decode cX12_setHysteresis 43 = .ok (.iload 4, 2) := by decide +kernel
theorem dX12_setHysteresis_45 : decode cX12_setHysteresis 45 = .ok (.ireturn, 1) := by decide +kernel
theorem dX12_setHysteresis_46 : decode cX12_setHysteresis 46 = .ok (.aload_n 0, 1) := by decide +kernel
theorem dX12_setHysteresis_47 : decode cX12_setHysteresis 47 = .ok (.invokevirtual 173, 3) := by decide +kernel
theorem dX12_setHysteresis_50 : decode cX12_setHysteresis 50 = .ok (.aload_n 0, 1) := by decide +kernel
theorem dX12_setHysteresis_51 : decode cX12_setHysteresis 51 = .ok (.getfield 9, 3) := by decide +kernel
theorem dX12_setHysteresis_54 : decode cX12_setHysteresis 54 = .ok (.bipush 90, 2) := by decide +kernel
theorem dX12_setHysteresis_56 : decode cX12_setHysteresis 56 = .ok (.iconst 5, 1) := by decide +kernel
theorem dX12_setHysteresis_57 : decode cX12_setHysteresis 57 = .ok (.aload_n 0, 1) := by decide +kernel
theorem dX12_setHysteresis_58 : decode cX12_setHysteresis 58 = .ok (.aload_n 0, 1) := by decide +kernel
theorem dX12_setHysteresis_59 : decode cX12_setHysteresis 59 = .ok (.getfield 9, 3) := by decide +kernel
theorem dX12_setHysteresis_62 : decode cX12_setHysteresis 62 = .ok (.iload_n 1, 1) := by decide +kernel
theorem dX12_setHysteresis_63 : decode cX12_setHysteresis 63 = .ok (.iload_n 2, 1) := by decide +kernel
theorem dX12_setHysteresis_64 : decode cX12_setHysteresis 64 = .ok (.invokevirtual 81, 3) := by decide +kernel
theorem dX12_setHysteresis_67 : decode cX12_setHysteresis 67 = .ok (.imul, 1) := by decide +kernel
theorem dX12_setHysteresis_68 : decode cX12_setHysteresis 68 = .ok (.iadd, 1) := by decide +kernel
theorem dX12_setHysteresis_69 : decode cX12_setHysteresis 69 = .ok (.iconst 2, 1) := by decide +kernel
theorem dX12_setHysteresis_70 : decode cX12_setHysteresis 70 = .ok (.iadd, 1) := by decide +kernel
theorem dX12_setHysteresis_71 : decode cX12_setHysteresis 71 = .ok (.iload_n 3, 1) := by decide +kernel
theorem dX12_setHysteresis_72 : decode cX12_setHysteresis 72 = .ok (.iastore, 1) := by decide +kernel
theorem dX12_setHysteresis_73 : decode cX12_setHysteresis 73 = .ok (.iload 4, 2) := by decide +kernel
theorem dX12_setHysteresis_75 : decode cX12_setHysteresis 75 = .ok (.ireturn, 1) := by decide +kernel
theorem dX12_tell_0 : decode cX12_tell 0 = .ok (.aload_n 0, 1) := by decide +kernel
theorem dX12_tell_1 : decode cX12_tell 1 = .ok (.iconst 0, 1) := by decide +kernel
theorem dX12_tell_2 : decode cX12_tell 2 = .ok (.putfield 70, 3) := by decide +kernel
theorem dX12_tell_5 : decode cX12_tell 5 = .ok (.aload_n 0, 1) := by decide +kernel
theorem dX12_tell_6 : decode cX12_tell 6 = .ok (.iload_n 1, 1) := by decide +kernel
theorem dX12_tell_7 : decode cX12_tell 7 = .ok (.invokevirtual 170, 3) := by decide +kernel
theorem dX12_tell_10 : decode cX12_tell 10 = .ok (.ifCond .ne 9, 3) := by decide +kernel
theorem dX12_tell_13 : decode cX12_tell 13 = .ok (.aload_n 0, 1) := by decide +kernel
theorem dX12_tell_14 : decode cX12_tell 14 = .ok (.iconst 1, 1) := by decide +kernel
theorem dX12_tell_15 : decode cX12_tell 15 = .ok (.invokevirtual 108, 3) := by decide +kernel
theorem dX12_tell_18 : decode cX12_tell 18 = .ok (.ireturn, 1) := by decide +kernel
theorem dX12_tell_19 : decode cX12_tell 19 = .ok (.aload_n 0, 1) := by decide +kernel
theorem dX12_tell_20 : decode cX12_tell 20 = .ok (.iload_n 1, 1) := by decide +kernel
theorem dX12_tell_21 : decode cX12_tell 21 = .ok (.iload_n 2, 1) := by decide +kernel
theorem dX12_tell_22 : decode cX12_tell 22 = .ok (.invokevirtual 77, 3) := by decide +kernel
theorem dX12_tell_25 : decode cX12_tell 25 = .ok (.ireturn, 1) := by decide +kernel
theorem dX12_x_0 : decode cX12_x 0 = .ok (.aload_n 0, 1) := by decide +kernel
theorem dX12_x_1 : decode cX12_x 1 = .ok (.iload_n 1, 1) := by decide +kernel
theorem dX12_x_2 : decode cX12_x 2 = .ok (.iconst 0, 1) := by decide +kernel
theorem dX12_x_3 : decode cX12_x 3 = .ok (.invokevirtual 192, 3) := by decide +kernel
theorem dX12_x_6 : decode cX12_x 6 = .ok (.ireturn, 1) := by decide +kernel
theorem dX12_y_0 : decode cX12_y 0 = .ok (.aload_n 0, 1) := by decide +kernel
theorem dX12_y_1 : decode cX12_y 1 = .ok (.iload_n 1, 1) := by decide +kernel
theorem dX12_y_2 : decode cX12_y 2 = .ok (.iconst 1, 1) := by decide +kernel
theorem dX12_y_3 : decode cX12_y 3 = .ok (.invokevirtual 192, 3) := by decide +kernel
theorem dX12_y_6 : decode cX12_y 6 = .ok (.ireturn, 1) := by decide +kernel
theorem dX12_state_0 : decode cX12_state 0 = .ok (.aload_n 0, 1) := by decide +kernel
theorem dX12_state_1 : decode cX12_state 1 = .ok (.iload_n 1, 1) := by decide +kernel
theorem dX12_state_2 : decode cX12_state 2 = .ok (.iconst 4, 1) := by decide +kernel
theorem dX12_state_3 : decode cX12_state 3 = .ok (.invokevirtual 192, 3) := by decide +kernel
theorem dX12_state_6 : decode cX12_state 6 = .ok (.ireturn, 1) := by decide +kernel
theorem dX12_servingCell_0 : decode cX12_servingCell 0 = .ok (.aload_n 0, 1) := by decide +kernel
theorem dX12_servingCell_1 : decode cX12_servingCell 1 = .ok (.iload_n 1, 1) := by decide +kernel
theorem dX12_servingCell_2 : decode cX12_servingCell 2 = .ok (.iconst 5, 1) := by decide +kernel
theorem dX12_servingCell_3 : decode cX12_servingCell 3 = .ok (.invokevirtual 192, 3) := by decide +kernel
theorem dX12_servingCell_6 : decode cX12_servingCell 6 = .ok (.ireturn, 1) := by decide +kernel
theorem dX12_remaining_0 : decode cX12_remaining 0 = .ok (.aload_n 0, 1) := by decide +kernel
theorem dX12_remaining_1 : decode cX12_remaining 1 = .ok (.iload_n 1, 1) := by decide +kernel
theorem dX12_remaining_2 : decode cX12_remaining 2 = .ok (.bipush 6, 2) := by decide +kernel
theorem dX12_remaining_4 : decode cX12_remaining 4 = .ok (.invokevirtual 192, 3) := by decide +kernel
theorem dX12_remaining_7 : decode cX12_remaining 7 = .ok (.ireturn, 1) := by decide +kernel
theorem dX12_requestCell_0 : decode cX12_requestCell 0 = .ok (.aload_n 0, 1) := by decide +kernel
theorem dX12_requestCell_1 : decode cX12_requestCell 1 = .ok (.iload_n 1, 1) := by decide +kernel
theorem dX12_requestCell_2 : decode cX12_requestCell 2 = .ok (.bipush 8, 2) := by decide +kernel
theorem dX12_requestCell_4 : decode cX12_requestCell 4 = .ok (.invokevirtual 192, 3) := by decide +kernel
theorem dX12_requestCell_7 : decode cX12_requestCell 7 = .ok (.ireturn, 1) := by decide +kernel
theorem dX12_arePair_0 : decode cX12_arePair 0 = .ok (.aload_n 0, 1) := by decide +kernel
theorem dX12_arePair_1 : decode cX12_arePair 1 = .ok (.aload_n 0, 1) := by decide +kernel
theorem dX12_arePair_2 : decode cX12_arePair 2 = .ok (.iload_n 1, 1) := by decide +kernel
theorem dX12_arePair_3 : decode cX12_arePair 3 = .ok (.invokevirtual 170, 3) := by decide +kernel
theorem dX12_arePair_6 : decode cX12_arePair 6 = .ok (.ifCond .eq 15, 3) := by decide +kernel
theorem dX12_arePair_9 : decode cX12_arePair 9 = .ok (.aload_n 0, 1) := by decide +kernel
theorem dX12_arePair_10 : decode cX12_arePair 10 = .ok (.iload_n 2, 1) := by decide +kernel
theorem dX12_arePair_11 : decode cX12_arePair 11 = .ok (.invokevirtual 104, 3) := by decide +kernel
theorem dX12_arePair_14 : decode cX12_arePair 14 = .ok (.ifCond .eq 7, 3) := by decide +kernel
theorem dX12_arePair_17 : decode cX12_arePair 17 = .ok (.iconst 0, 1) := by decide +kernel
theorem dX12_arePair_18 : decode cX12_arePair 18 = .ok (.goto 4, 3) := by decide +kernel
theorem dX12_arePair_21 : decode cX12_arePair 21 = .ok (.iconst 1, 1) := by decide +kernel
theorem dX12_arePair_22 : decode cX12_arePair 22 = .ok (.putfield 70, 3) := by decide +kernel
theorem dX12_arePair_25 : decode cX12_arePair 25 = .ok (.aload_n 0, 1) := by decide +kernel
theorem dX12_arePair_26 : decode cX12_arePair 26 = .ok (.getfield 70, 3) := by decide +kernel
theorem dX12_arePair_29 : decode cX12_arePair 29 = .ok (.ifCond .ne 7, 3) := by decide +kernel
theorem dX12_arePair_32 : decode cX12_arePair 32 = .ok (.iconst 1, 1) := by decide +kernel
theorem dX12_arePair_33 : decode cX12_arePair 33 = .ok (.goto 4, 3) := by decide +kernel
theorem dX12_arePair_36 : decode cX12_arePair 36 = .ok (.iconst 0, 1) := by decide +kernel
theorem dX12_arePair_37 : decode cX12_arePair 37 = .ok (.ireturn, 1) := by decide +kernel
theorem dX12_average_0 : decode cX12_average 0 = .ok (.aload_n 0, 1) := by decide +kernel
theorem dX12_average_1 : decode cX12_average 1 = .ok (.iload_n 1, 1) := by decide +kernel
theorem dX12_average_2 : decode cX12_average 2 = .ok (.iload_n 2, 1) := by decide +kernel
theorem dX12_average_3 : decode cX12_average 3 = .ok (.invokevirtual 263, 3) := by decide +kernel
theorem dX12_average_6 : decode cX12_average 6 = .ok (.ifCond .ne 5, 3) := by decide +kernel
theorem dX12_average_9 : decode cX12_average 9 = .ok (.iconst 0, 1) := by decide +kernel
theorem dX12_average_10 : decode cX12_average 10 = .ok (.ireturn, 1) := by decide +kernel
theorem dX12_average_11 : decode cX12_average 11 = .ok (.aload_n 0, 1) := by decide +kernel
theorem dX12_average_12 : decode cX12_average 12 = .ok (.iload_n 1, 1) := by decide +kernel
theorem dX12_average_13 : decode cX12_average 13 = .ok (.invokevirtual 135, 3) := by decide +kernel
theorem dX12_average_16 : decode cX12_average 16 = .ok (.ifCond .eq 21, 3) := by decide +kernel
theorem dX12_average_19 : decode cX12_average 19 = .ok (.aload_n 0, 1) := by decide +kernel
theorem dX12_average_20 : decode cX12_average 20 = .ok (.iload_n 1, 1) := by decide +kernel
theorem dX12_average_21 : decode cX12_average 21 = .ok (.iload_n 2, 1) := by decide +kernel
theorem dX12_average_22 : decode cX12_average 22 = .ok (.invokevirtual 154, 3) := by decide +kernel
theorem dX12_average_25 : decode cX12_average 25 = .ok (.ifCond .le 12, 3) := by decide +kernel
theorem dX12_average_28 : decode cX12_average 28 = .ok (.aload_n 0, 1) := by decide +kernel
theorem dX12_average_29 : decode cX12_average 29 = .ok (.iload_n 1, 1) := by decide +kernel
theorem dX12_average_30 : decode cX12_average 30 = .ok (.iload_n 2, 1) := by decide +kernel
theorem dX12_average_31 : decode cX12_average 31 = .ok (.invokevirtual 204, 3) := by decide +kernel
theorem dX12_average_34 : decode cX12_average 34 = .ok (.goto 4, 3) := by decide +kernel
theorem dX12_average_37 : decode cX12_average 37 = .ok (.iconst (-1), 1) := by decide +kernel
theorem dX12_average_38 : decode cX12_average 38 = .ok (.ireturn, 1) := by decide +kernel
theorem dX12_reportCount_0 : decode cX12_reportCount 0 = .ok (.aload_n 0, 1) := by decide +kernel
theorem dX12_reportCount_1 : decode cX12_reportCount 1 = .ok (.iload_n 1, 1) := by decide +kernel
theorem dX12_reportCount_2 : decode cX12_reportCount 2 = .ok (.iload_n 2, 1) := by decide +kernel
theorem dX12_reportCount_3 : decode cX12_reportCount 3 = .ok (.invokevirtual 263, 3) := by decide +kernel
theorem dX12_reportCount_6 : decode cX12_reportCount 6 = .ok (.ifCond .eq 20, 3) := by decide +kernel
theorem dX12_reportCount_9 : decode cX12_reportCount 9 = .ok (.aload_n 0, 1) := by decide +kernel
theorem dX12_reportCount_10 : decode cX12_reportCount 10 = .ok (.iload_n 1, 1) := by decide +kernel
theorem dX12_reportCount_11 : decode cX12_reportCount 11 = .ok (.invokevirtual 135, 3) := by decide +kernel
theorem dX12_reportCount_14 : decode cX12_reportCount 14 = .ok (.ifCond .eq 12, 3) := by decide +kernel
theorem dX12_reportCount_17 : decode cX12_reportCount 17 = .ok (.aload_n 0, 1) := by decide +kernel
theorem dX12_reportCount_18 : decode cX12_reportCount 18 = .ok (.iload_n 1, 1) := by decide +kernel
theorem dX12_reportCount_19 : decode cX12_reportCount 19 = .ok (.iload_n 2, 1) := by decide +kernel
theorem dX12_reportCount_20 : decode cX12_reportCount 20 = .ok (.invokevirtual 154, 3) := by decide +kernel
theorem dX12_reportCount_23 : decode cX12_reportCount 23 = .ok (.goto 4, 3) := by decide +kernel
theorem dX12_reportCount_26 : decode cX12_reportCount 26 = .ok (.iconst 0, 1) := by decide +kernel
theorem dX12_reportCount_27 : decode cX12_reportCount 27 = .ok (.ireturn, 1) := by decide +kernel
theorem dX12_isBarred_0 : decode cX12_isBarred 0 = .ok (.aload_n 0, 1) := by decide +kernel
theorem dX12_isBarred_1 : decode cX12_isBarred 1 = .ok (.iload_n 1, 1) := by decide +kernel
theorem dX12_isBarred_2 : decode cX12_isBarred 2 = .ok (.iload_n 2, 1) := by decide +kernel
theorem dX12_isBarred_3 : decode cX12_isBarred 3 = .ok (.invokevirtual 263, 3) := by decide +kernel
theorem dX12_isBarred_6 : decode cX12_isBarred 6 = .ok (.ifCond .eq 24, 3) := by decide +kernel
theorem dX12_isBarred_9 : decode cX12_isBarred 9 = .ok (.aload_n 0, 1) := by decide +kernel
theorem dX12_isBarred_10 : decode cX12_isBarred 10 = .ok (.iload_n 1, 1) := by decide +kernel
theorem dX12_isBarred_11 : decode cX12_isBarred 11 = .ok (.invokevirtual 135, 3) := by decide +kernel
theorem dX12_isBarred_14 : decode cX12_isBarred 14 = .ok (.ifCond .eq 16, 3) := by decide +kernel
theorem dX12_isBarred_17 : decode cX12_isBarred 17 = .ok (.aload_n 0, 1) := by decide +kernel
theorem dX12_isBarred_18 : decode cX12_isBarred 18 = .ok (.iload_n 1, 1) := by decide +kernel
theorem dX12_isBarred_19 : decode cX12_isBarred 19 = .ok (.iload_n 2, 1) := by decide +kernel
theorem dX12_isBarred_20 : decode cX12_isBarred 20 = .ok (.invokevirtual 198, 3) := by decide +kernel
theorem dX12_isBarred_23 : decode cX12_isBarred 23 = .ok (.ifCond .eq 7, 3) := by decide +kernel
theorem dX12_isBarred_26 : decode cX12_isBarred 26 = .ok (.iconst 1, 1) := by decide +kernel
theorem dX12_isBarred_27 : decode cX12_isBarred 27 = .ok (.goto 4, 3) := by decide +kernel
theorem dX12_isBarred_30 : decode cX12_isBarred 30 = .ok (.iconst 0, 1) := by decide +kernel
theorem dX12_isBarred_31 : decode cX12_isBarred 31 = .ok (.ireturn, 1) := by decide +kernel
theorem dX12_candidate_0 : decode cX12_candidate 0 = .ok (.aload_n 0, 1) := by decide +kernel
theorem dX12_candidate_1 : decode cX12_candidate 1 = .ok (.iconst 0, 1) := by decide +kernel
theorem dX12_candidate_2 : decode cX12_candidate 2 = .ok (.putfield 70, 3) := by decide +kernel
theorem dX12_candidate_5 : decode cX12_candidate 5 = .ok (.aload_n 0, 1) := by decide +kernel
theorem dX12_candidate_6 : decode cX12_candidate 6 = .ok (.iload_n 1, 1) := by decide +kernel
theorem dX12_candidate_7 : decode cX12_candidate 7 = .ok (.invokevirtual 170, 3) := by decide +kernel
theorem dX12_candidate_10 : decode cX12_candidate 10 = .ok (.ifCond .eq 7, 3) := by decide +kernel
theorem dX12_candidate_13 : decode cX12_candidate 13 = .ok (.iload_n 2, 1) := by decide +kernel
theorem dX12_candidate_14 : decode cX12_candidate 14 = .ok (.ifCond .ge 9, 3) := by decide +kernel
theorem dX12_candidate_17 : decode cX12_candidate 17 = .ok (.aload_n 0, 1) := by decide +kernel
theorem dX12_candidate_18 : decode cX12_candidate 18 = .ok (.iconst 1, 1) := by decide +kernel
theorem dX12_candidate_19 : decode cX12_candidate 19 = .ok (.invokevirtual 108, 3) := by decide +kernel
theorem dX12_candidate_22 : decode cX12_candidate 22 = .ok (.ireturn, 1) := by decide +kernel
theorem dX12_candidate_23 : decode cX12_candidate 23 = .ok (.aload_n 0, 1) := by decide +kernel
theorem dX12_candidate_24 : decode cX12_candidate 24 = .ok (.iload_n 1, 1) := by decide +kernel
theorem dX12_candidate_25 : decode cX12_candidate 25 = .ok (.invokevirtual 135, 3) := by decide +kernel
theorem dX12_candidate_28 : decode cX12_candidate 28 = .ok (.ifCond .ne 5, 3) := by decide +kernel
theorem dX12_candidate_31 : decode cX12_candidate 31 = .ok (.iconst (-1), 1) := by decide +kernel
theorem dX12_candidate_32 : decode cX12_candidate 32 = .ok (.ireturn, 1) := by decide +kernel
theorem dX12_candidate_33 : decode cX12_candidate 33 = .ok (.aload_n 0, 1) := by decide +kernel
theorem dX12_candidate_34 : decode cX12_candidate 34 = .ok (.iload_n 1, 1) := by decide +kernel
theorem dX12_candidate_35 : decode cX12_candidate 35 = .ok (.invokevirtual 217, 3) := by decide +kernel
theorem dX12_candidate_38 : decode cX12_candidate 38 = .ok (.iload_n 2, 1) := by decide +kernel
theorem dX12_candidate_39 : decode cX12_candidate 39 = .ok (.aload_n 0, 1) := by decide +kernel
theorem dX12_candidate_40 : decode cX12_candidate 40 = .ok (.getfield 207, 3) := by decide +kernel
theorem dX12_candidate_43 : decode cX12_candidate 43 = .ok (.if_icmp .ge 12, 3) := by decide +kernel
theorem dX12_candidate_46 : decode cX12_candidate 46 = .ok (.aload_n 0, 1) := by decide +kernel
theorem dX12_candidate_47 : decode cX12_candidate 47 = .ok (.getfield 25, 3) := by decide +kernel
theorem dX12_candidate_50 : decode cX12_candidate 50 = .ok (.iload_n 2, 1) := by decide +kernel
theorem dX12_candidate_51 : decode cX12_candidate 51 = .ok (.iaload, 1) := by decide +kernel
theorem dX12_candidate_52 : decode cX12_candidate 52 = .ok (.goto 4, 3) := by decide +kernel
theorem dX12_candidate_55 : decode cX12_candidate 55 = .ok (.iconst (-1), 1) := by decide +kernel
theorem dX12_candidate_56 : decode cX12_candidate 56 = .ok (.ireturn, 1) := by decide +kernel
theorem dX12_forecastCell_0 : decode cX12_forecastCell 0 = .ok (.aload_n 0, 1) := by decide +kernel
theorem dX12_forecastCell_1 : decode cX12_forecastCell 1 = .ok (.iconst 0, 1) := by decide +kernel
theorem dX12_forecastCell_2 : decode cX12_forecastCell 2 = .ok (.putfield 70, 3) := by decide +kernel
theorem dX12_forecastCell_5 : decode cX12_forecastCell 5 = .ok (.aload_n 0, 1) := by decide +kernel
theorem dX12_forecastCell_6 : decode cX12_forecastCell 6 = .ok (.iload_n 1, 1) := by decide +kernel
theorem dX12_forecastCell_7 : decode cX12_forecastCell 7 = .ok (.invokevirtual 170, 3) := by decide +kernel
theorem dX12_forecastCell_10 : decode cX12_forecastCell 10 = .ok (.ifCond .ne 9, 3) := by decide +kernel
theorem dX12_forecastCell_13 : decode cX12_forecastCell 13 = .ok (.aload_n 0, 1) := by decide +kernel
theorem dX12_forecastCell_14 : decode cX12_forecastCell 14 = .ok (.iconst 1, 1) := by decide +kernel
theorem dX12_forecastCell_15 : decode cX12_forecastCell 15 = .ok (.invokevirtual 108, 3) := by decide +kernel
theorem dX12_forecastCell_18 : decode cX12_forecastCell 18 = .ok (.ireturn, 1) := by decide +kernel
theorem dX12_forecastCell_19 : decode cX12_forecastCell 19 = .ok (.aload_n 0, 1) := by decide +kernel
theorem dX12_forecastCell_20 : decode cX12_forecastCell 20 = .ok (.iload_n 2, 1) := by decide +kernel
theorem dX12_forecastCell_21 : decode cX12_forecastCell 21 = .ok (.bipush 60, 2) := by decide +kernel
theorem dX12_forecastCell_23 : decode cX12_forecastCell 23 = .ok (.invokevirtual 254, 3) := by decide +kernel
theorem dX12_forecastCell_26 : decode cX12_forecastCell 26 = .ok (.ifCond .ne 9, 3) := by decide +kernel
theorem dX12_forecastCell_29 : decode cX12_forecastCell 29 = .ok (.aload_n 0, 1) := by decide +kernel
theorem dX12_forecastCell_30 : decode cX12_forecastCell 30 = .ok (.iconst 2, 1) := by decide +kernel
theorem dX12_forecastCell_31 : decode cX12_forecastCell 31 = .ok (.invokevirtual 108, 3) := by decide +kernel
theorem dX12_forecastCell_34 : decode cX12_forecastCell 34 = .ok (.ireturn, 1) := by decide +kernel
theorem dX12_forecastCell_35 : decode cX12_forecastCell 35 = .ok (.aload_n 0, 1) := by decide +kernel
theorem dX12_forecastCell_36 : decode cX12_forecastCell 36 = .ok (.getfield 9, 3) := by decide +kernel
theorem dX12_forecastCell_39 : decode cX12_forecastCell 39 = .ok (.iconst 0, 1) := by decide +kernel
theorem dX12_forecastCell_40 : decode cX12_forecastCell 40 = .ok (.aload_n 0, 1) := by decide +kernel
theorem dX12_forecastCell_41 : decode cX12_forecastCell 41 = .ok (.getfield 16, 3) := by decide +kernel
theorem dX12_forecastCell_44 : decode cX12_forecastCell 44 = .ok (.iconst 0, 1) := by decide +kernel
theorem dX12_forecastCell_45 : decode cX12_forecastCell 45 = .ok (.invokestatic 266, 3) := by decide +kernel
theorem dX12_forecastCell_48 : decode cX12_forecastCell 48 = .ok (.aload_n 0, 1) := by decide +kernel
theorem dX12_forecastCell_49 : decode cX12_forecastCell 49 = .ok (.iload_n 2, 1) := by decide +kernel
theorem dX12_forecastCell_50 : decode cX12_forecastCell 50 = .ok (.invokevirtual 257, 3) := by decide +kernel
theorem dX12_forecastCell_53 : decode cX12_forecastCell 53 = .ok (.aload_n 0, 1) := by decide +kernel
theorem dX12_forecastCell_54 : decode cX12_forecastCell 54 = .ok (.iload_n 1, 1) := by decide +kernel
theorem dX12_forecastCell_55 : decode cX12_forecastCell 55 = .ok (.iconst 5, 1) := by decide +kernel
theorem dX12_forecastCell_56 : decode cX12_forecastCell 56 = .ok (.invokevirtual 77, 3) := by decide +kernel
theorem dX12_forecastCell_59 : decode cX12_forecastCell 59 = .ok (.istore_n 3, 1) := by decide +kernel
theorem dX12_forecastCell_60 : decode cX12_forecastCell 60 = .ok (.aload_n 0, 1) := by decide +kernel
theorem dX12_forecastCell_61 : decode cX12_forecastCell 61 = .ok (.getfield 16, 3) := by decide +kernel
theorem dX12_forecastCell_64 : decode cX12_forecastCell 64 = .ok (.iconst 0, 1) := by decide +kernel
theorem dX12_forecastCell_65 : decode cX12_forecastCell 65 = .ok (.aload_n 0, 1) := by decide +kernel
theorem dX12_forecastCell_66 : decode cX12_forecastCell 66 = .ok (.getfield 9, 3) := by decide +kernel
theorem dX12_forecastCell_69 : decode cX12_forecastCell 69 = .ok (.iconst 0, 1) := by decide +kernel
theorem dX12_forecastCell_70 : decode cX12_forecastCell 70 = .ok (.invokestatic 266, 3) := by decide +kernel
theorem dX12_forecastCell_73 : decode cX12_forecastCell 73 = .ok (.iload_n 3, 1) := by decide +kernel
theorem dX12_forecastCell_74 : decode cX12_forecastCell 74 = .ok (.ireturn, 1) := by decide +kernel
theorem dX12_bestHysteresis_0 : decode cX12_bestHysteresis 0 = .ok (.aload_n 0, 1) := by decide +kernel
theorem dX12_bestHysteresis_1 : decode cX12_bestHysteresis 1 = .ok (.iconst 0, 1) := by decide +kernel
theorem dX12_bestHysteresis_2 : decode cX12_bestHysteresis 2 = .ok (.putfield 70, 3) := by decide +kernel
theorem dX12_bestHysteresis_5 : decode cX12_bestHysteresis 5 = .ok (.aload_n 0, 1) := by decide +kernel
theorem dX12_bestHysteresis_6 : decode cX12_bestHysteresis 6 = .ok (.iload_n 1, 1) := by decide +kernel
theorem dX12_bestHysteresis_7 : decode cX12_bestHysteresis 7 = .ok (.invokevirtual 104, 3) := by decide +kernel
theorem dX12_bestHysteresis_10 : decode cX12_bestHysteresis 10 = .ok (.ifCond .eq 11, 3) := by decide +kernel
theorem dX12_bestHysteresis_13 : decode cX12_bestHysteresis 13 = .ok (.aload_n 0, 1) := by decide +kernel
theorem dX12_bestHysteresis_14 : decode cX12_bestHysteresis 14 = .ok (.iload_n 2, 1) := by decide +kernel
theorem dX12_bestHysteresis_15 : decode cX12_bestHysteresis 15 = .ok (.invokevirtual 104, 3) := by decide +kernel
theorem dX12_bestHysteresis_18 : decode cX12_bestHysteresis 18 = .ok (.ifCond .ne 9, 3) := by decide +kernel
theorem dX12_bestHysteresis_21 : decode cX12_bestHysteresis 21 = .ok (.aload_n 0, 1) := by decide +kernel
theorem dX12_bestHysteresis_22 : decode cX12_bestHysteresis 22 = .ok (.iconst 1, 1) := by decide +kernel
theorem dX12_bestHysteresis_23 : decode cX12_bestHysteresis 23 = .ok (.invokevirtual 108, 3) := by decide +kernel
theorem dX12_bestHysteresis_26 : decode cX12_bestHysteresis 26 = .ok (.ireturn, 1) := by decide +kernel
theorem dX12_bestHysteresis_27 : decode cX12_bestHysteresis 27 = .ok (.aload_n 0, 1) := by decide +kernel
theorem dX12_bestHysteresis_28 : decode cX12_bestHysteresis 28 = .ok (.iload_n 3, 1) := by decide +kernel
theorem dX12_bestHysteresis_29 : decode cX12_bestHysteresis 29 = .ok (.bipush 30, 2) := by decide +kernel
theorem dX12_bestHysteresis_31 : decode cX12_bestHysteresis 31 = .ok (.invokevirtual 254, 3) := by decide +kernel
theorem dX12_bestHysteresis_34 : decode cX12_bestHysteresis 34 = .ok (.ifCond .ne 9, 3) := by decide +kernel
theorem dX12_bestHysteresis_37 : decode cX12_bestHysteresis 37 = .ok (.aload_n 0, 1) := by decide +kernel
theorem dX12_bestHysteresis_38 : decode cX12_bestHysteresis 38 = .ok (.iconst 2, 1) := by decide +kernel
theorem dX12_bestHysteresis_39 : decode cX12_bestHysteresis 39 = .ok (.invokevirtual 108, 3) := by decide +kernel
theorem dX12_bestHysteresis_42 : decode cX12_bestHysteresis 42 = .ok (.ireturn, 1) := by decide +kernel
theorem dX12_bestHysteresis_43 : decode cX12_bestHysteresis 43 = .ok (.aload_n 0, 1) := by decide +kernel
theorem dX12_bestHysteresis_44 : decode cX12_bestHysteresis 44 = .ok (.aload_n 0, 1) := by decide +kernel
theorem dX12_bestHysteresis_45 : decode cX12_bestHysteresis 45 = .ok (.getfield 9, 3) := by decide +kernel
theorem dX12_bestHysteresis_48 : decode cX12_bestHysteresis 48 = .ok (.iload_n 1, 1) := by decide +kernel
theorem dX12_bestHysteresis_49 : decode cX12_bestHysteresis 49 = .ok (.iload_n 2, 1) := by decide +kernel
theorem dX12_bestHysteresis_50 : decode cX12_bestHysteresis 50 = .ok (.invokevirtual 81, 3) := by decide +kernel
theorem dX12_bestHysteresis_53 : decode cX12_bestHysteresis 53 = .ok (.istore 4, 2) := by decide +kernel
theorem dX12_bestHysteresis_55 : decode cX12_bestHysteresis 55 = .ok (.iload 4, 2) := by decide +kernel
theorem dX12_bestHysteresis_57 : decode cX12_bestHysteresis 57 = .ok (.iconst (-1), 1) := by decide +kernel
theorem dX12_bestHysteresis_58 : decode cX12_bestHysteresis 58 = .ok (.if_icmp .ne 6, 3) := by decide +kernel
theorem dX12_bestHysteresis_61 : decode cX12_bestHysteresis 61 = .ok (.bipush (-2), 2) := by decide +kernel
theorem dX12_bestHysteresis_63 : decode cX12_bestHysteresis 63 = .ok (.ireturn, 1) := by decide +kernel
theorem dX12_bestHysteresis_64 : decode cX12_bestHysteresis 64 = .ok (.aload_n 0, 1) := by decide +kernel
theorem dX12_bestHysteresis_65 : decode cX12_bestHysteresis 65 = .ok (.getfield 9, 3) := by decide +kernel
theorem dX12_bestHysteresis_68 : decode cX12_bestHysteresis 68 = .ok (.iconst 0, 1) := by decide +kernel
theorem dX12_bestHysteresis_69 : decode cX12_bestHysteresis 69 = .ok (.aload_n 0, 1) := by decide +kernel
theorem dX12_bestHysteresis_70 : decode cX12_bestHysteresis 70 = .ok (.getfield 16, 3) := by decide +kernel
theorem dX12_bestHysteresis_73 : decode cX12_bestHysteresis 73 = .ok (.iconst 0, 1) := by decide +kernel
theorem dX12_bestHysteresis_74 : decode cX12_bestHysteresis 74 = .ok (.invokestatic 266, 3) := by decide +kernel
theorem dX12_bestHysteresis_77 : decode cX12_bestHysteresis 77 = .ok (.iconst (-1), 1) := by decide +kernel
theorem dX12_bestHysteresis_78 : decode cX12_bestHysteresis 78 = .ok (.istore 5, 2) := by decide +kernel
theorem dX12_bestHysteresis_80 : decode cX12_bestHysteresis 80 = .ok (.iconst 0, 1) := by decide +kernel
theorem dX12_bestHysteresis_81 : decode cX12_bestHysteresis 81 = .ok (.istore 6, 2) := by decide +kernel
theorem dX12_bestHysteresis_83 : decode cX12_bestHysteresis 83 = .ok (.iconst 0, 1) := by decide +kernel
theorem dX12_bestHysteresis_84 : decode cX12_bestHysteresis 84 = .ok (.istore 7, 2) := by decide +kernel
theorem dX12_bestHysteresis_86 : decode cX12_bestHysteresis 86 = .ok (.iconst 0, 1) := by decide +kernel
theorem dX12_bestHysteresis_87 : decode cX12_bestHysteresis 87 = .ok (.istore 8, 2) := by decide +kernel
theorem dX12_bestHysteresis_89 : decode cX12_bestHysteresis 89 = .ok (.iload 8, 2) := by decide +kernel
theorem dX12_bestHysteresis_91 : decode cX12_bestHysteresis 91 = .ok (.bipush 30, 2) := by decide +kernel
theorem dX12_bestHysteresis_93 : decode cX12_bestHysteresis 93 = .ok (.if_icmp .gt 100, 3) := by decide +kernel
theorem dX12_bestHysteresis_96 : decode cX12_bestHysteresis 96 = .ok (.aload_n 0, 1) := by decide +kernel
theorem dX12_bestHysteresis_97 : decode cX12_bestHysteresis 97 = .ok (.getfield 9, 3) := by decide +kernel
theorem dX12_bestHysteresis_100 : decode cX12_bestHysteresis 100 = .ok (.bipush 90, 2) := by decide +kernel
theorem dX12_bestHysteresis_102 : decode cX12_bestHysteresis 102 = .ok (.iconst 5, 1) := by decide +kernel
theorem dX12_bestHysteresis_103 : decode cX12_bestHysteresis 103 = .ok (.iload 4, 2) := by decide +kernel
theorem dX12_bestHysteresis_105 : decode cX12_bestHysteresis 105 = .ok (.imul, 1) := by decide +kernel
theorem dX12_bestHysteresis_106 : decode cX12_bestHysteresis 106 = .ok (.iadd, 1) := by decide +kernel
theorem dX12_bestHysteresis_107 : decode cX12_bestHysteresis 107 = .ok (.iconst 2, 1) := by decide +kernel
theorem dX12_bestHysteresis_108 : decode cX12_bestHysteresis 108 = .ok (.iadd, 1) := by decide +kernel
theorem dX12_bestHysteresis_109 : decode cX12_bestHysteresis 109 = .ok (.iload 8, 2) := by decide +kernel
theorem dX12_bestHysteresis_111 : decode cX12_bestHysteresis 111 = .ok (.iastore, 1) := by decide +kernel
theorem dX12_bestHysteresis_112 : decode cX12_bestHysteresis 112 = .ok (.aload_n 0, 1) := by decide +kernel
theorem dX12_bestHysteresis_113 : decode cX12_bestHysteresis 113 = .ok (.iload_n 3, 1) := by decide +kernel
theorem dX12_bestHysteresis_114 : decode cX12_bestHysteresis 114 = .ok (.invokevirtual 257, 3) := by decide +kernel
theorem dX12_bestHysteresis_117 : decode cX12_bestHysteresis 117 = .ok (.aload_n 0, 1) := by decide +kernel
theorem dX12_bestHysteresis_118 : decode cX12_bestHysteresis 118 = .ok (.getfield 9, 3) := by decide +kernel
theorem dX12_bestHysteresis_121 : decode cX12_bestHysteresis 121 = .ok (.bipush 13, 2) := by decide +kernel
theorem dX12_bestHysteresis_123 : decode cX12_bestHysteresis 123 = .ok (.iaload, 1) := by decide +kernel
theorem dX12_bestHysteresis_124 : decode cX12_bestHysteresis 124 = .ok (.istore 9, 2) := by decide +kernel
theorem dX12_bestHysteresis_126 : decode cX12_bestHysteresis 126 = .ok (.aload_n 0, 1) := by decide +kernel
theorem dX12_bestHysteresis_127 : decode cX12_bestHysteresis 127 = .ok (.getfield 9, 3) := by decide +kernel
theorem dX12_bestHysteresis_130 : decode cX12_bestHysteresis 130 = .ok (.bipush 10, 2) := by decide +kernel
theorem dX12_bestHysteresis_132 : decode cX12_bestHysteresis 132 = .ok (.iaload, 1) := by decide +kernel
theorem dX12_bestHysteresis_133 : decode cX12_bestHysteresis 133 = .ok (.istore 10, 2) := by decide +kernel
theorem dX12_bestHysteresis_135 : decode cX12_bestHysteresis 135 = .ok (.aload_n 0, 1) := by decide +kernel
theorem dX12_bestHysteresis_136 : decode cX12_bestHysteresis 136 = .ok (.getfield 16, 3) := by decide +kernel
theorem dX12_bestHysteresis_139 : decode cX12_bestHysteresis 139 = .ok (.iconst 0, 1) := by decide +kernel
theorem dX12_bestHysteresis_140 : decode cX12_bestHysteresis 140 = .ok (.aload_n 0, 1) := by decide +kernel
theorem dX12_bestHysteresis_141 : decode cX12_bestHysteresis 141 = .ok (.getfield 9, 3) := by decide +kernel
theorem dX12_bestHysteresis_144 : decode cX12_bestHysteresis 144 = .ok (.iconst 0, 1) := by decide +kernel
theorem dX12_bestHysteresis_145 : decode cX12_bestHysteresis 145 = .ok (.invokestatic 266, 3) := by decide +kernel
theorem dX12_bestHysteresis_148 : decode cX12_bestHysteresis 148 = .ok (.iload 5, 2) := by decide +kernel
theorem dX12_bestHysteresis_150 : decode cX12_bestHysteresis 150 = .ok (.iconst (-1), 1) := by decide +kernel
theorem dX12_bestHysteresis_151 : decode cX12_bestHysteresis 151 = .ok (.if_icmp .eq 24, 3) := by decide +kernel
theorem dX12_bestHysteresis_154 : decode cX12_bestHysteresis 154 = .ok (.iload 9, 2) := by decide +kernel
theorem dX12_bestHysteresis_156 : decode cX12_bestHysteresis 156 = .ok (.iload 6, 2) := by decide +kernel
theorem dX12_bestHysteresis_158 : decode cX12_bestHysteresis 158 = .ok (.if_icmp .lt 17, 3) := by decide +kernel
theorem dX12_bestHysteresis_161 : decode cX12_bestHysteresis 161 = .ok (.iload 9, 2) := by decide +kernel
theorem dX12_bestHysteresis_163 : decode cX12_bestHysteresis 163 = .ok (.iload 6, 2) := by decide +kernel
theorem dX12_bestHysteresis_165 : decode cX12_bestHysteresis 165 = .ok (.if_icmp .ne 22, 3) := by decide +kernel
theorem dX12_bestHysteresis_168 : decode cX12_bestHysteresis 168 = .ok (.iload 10, 2) := by decide +kernel
theorem dX12_bestHysteresis_170 : decode cX12_bestHysteresis 170 = .ok (.iload 7, 2) := by decide +kernel
theorem dX12_bestHysteresis_172 : decode cX12_bestHysteresis 172 = .ok (.if_icmp .ge 15, 3) := by decide +kernel
theorem dX12_bestHysteresis_175 : decode cX12_bestHysteresis 175 = .ok (.iload 8, 2) := by decide +kernel
theorem dX12_bestHysteresis_177 : decode cX12_bestHysteresis 177 = .ok (.istore 5, 2) := by decide +kernel
theorem dX12_bestHysteresis_179 : decode cX12_bestHysteresis 179 = .ok (.iload 9, 2) := by decide +kernel
theorem dX12_bestHysteresis_181 : decode cX12_bestHysteresis 181 = .ok (.istore 6, 2) := by decide +kernel
theorem dX12_bestHysteresis_183 : decode cX12_bestHysteresis 183 = .ok (.iload 10, 2) := by decide +kernel
theorem dX12_bestHysteresis_185 : decode cX12_bestHysteresis 185 = .ok (.istore 7, 2) := by decide +kernel
theorem dX12_bestHysteresis_187 : decode cX12_bestHysteresis 187 = .ok (.iinc 8 1, 3) := by decide +kernel
theorem dX12_bestHysteresis_190 : decode cX12_bestHysteresis 190 = .ok (.goto (-101), 3) := by decide +kernel
theorem dX12_bestHysteresis_193 : decode cX12_bestHysteresis 193 = .ok (.iload 5, 2) := by decide +kernel
theorem dX12_bestHysteresis_195 : decode cX12_bestHysteresis 195 = .ok (.ireturn, 1) := by decide +kernel
theorem dX12_copy_0 : decode cX12_copy 0 = .ok (.iconst 0, 1) := by decide +kernel
theorem dX12_copy_1 : decode cX12_copy 1 = .ok (.istore 4, 2) := by decide +kernel
theorem dX12_copy_3 : decode cX12_copy 3 = .ok (.iload 4, 2) := by decide +kernel
theorem dX12_copy_5 : decode cX12_copy 5 = .ok (.sipush 1302, 3) := by decide +kernel
theorem dX12_copy_8 : decode cX12_copy 8 = .ok (.if_icmp .ge 29, 3) := by decide +kernel
theorem dX12_copy_11 : decode cX12_copy 11 = .ok (.aload_n 2, 1) := by decide +kernel
theorem dX12_copy_12 : decode cX12_copy 12 = .ok (.sipush 1302, 3) := by decide +kernel
theorem dX12_copy_15 : decode cX12_copy 15 = .ok (.iload_n 3, 1) := by decide +kernel
theorem dX12_copy_16 : decode cX12_copy 16 = .ok (.imul, 1) := by decide +kernel
theorem dX12_copy_17 : decode cX12_copy 17 = .ok (.iload 4, 2) := by decide +kernel
theorem dX12_copy_19 : decode cX12_copy 19 = .ok (.iadd, 1) := by decide +kernel
theorem dX12_copy_20 : decode cX12_copy 20 = .ok (.aload_n 0, 1) := by decide +kernel
theorem dX12_copy_21 : decode cX12_copy 21 = .ok (.sipush 1302, 3) := by decide +kernel
theorem dX12_copy_24 : decode cX12_copy 24 = .ok (.iload_n 1, 1) := by decide +kernel
theorem dX12_copy_25 : decode cX12_copy 25 = .ok (.imul, 1) := by decide +kernel
theorem dX12_copy_26 : decode cX12_copy 26 = .ok (.iload 4, 2) := by decide +kernel
theorem dX12_copy_28 : decode cX12_copy 28 = .ok (.iadd, 1) := by decide +kernel
theorem dX12_copy_29 : decode cX12_copy 29 = .ok (.iaload, 1) := by decide +kernel
theorem dX12_copy_30 : decode cX12_copy 30 = .ok (.iastore, 1) := by decide +kernel
theorem dX12_copy_31 : decode cX12_copy 31 = .ok (.iinc 4 1, 3) := by decide +kernel
theorem dX12_copy_34 : decode cX12_copy 34 = .ok (.goto (-31), 3) := by decide +kernel
theorem dX12_copy_37 : decode cX12_copy 37 = .ok (.return_, 1) := by decide +kernel
theorem dX12_record_0 : decode cX12_record 0 = .ok (.aload_n 0, 1) := by decide +kernel
theorem dX12_record_1 : decode cX12_record 1 = .ok (.getfield 270, 3) := by decide +kernel
theorem dX12_record_4 : decode cX12_record 4 = .ok (.bipush 12, 2) := by decide +kernel
theorem dX12_record_6 : decode cX12_record 6 = .ok (.if_icmp .ne 42, 3) := by decide +kernel
theorem dX12_record_9 : decode cX12_record 9 = .ok (.iconst 1, 1) := by decide +kernel
theorem dX12_record_10 : decode cX12_record 10 = .ok (.istore_n 1, 1) := by decide +kernel
theorem dX12_record_11 : decode cX12_record 11 = .ok (.iload_n 1, 1) := by decide +kernel
theorem dX12_record_12 : decode cX12_record 12 = .ok (.bipush 12, 2) := by decide +kernel
theorem dX12_record_14 : decode cX12_record 14 = .ok (.if_icmp .ge 24, 3) := by decide +kernel
theorem dX12_record_17 : decode cX12_record 17 = .ok (.aload_n 0, 1) := by decide +kernel
theorem dX12_record_18 : decode cX12_record 18 = .ok (.getfield 22, 3) := by decide +kernel
theorem dX12_record_21 : decode cX12_record 21 = .ok (.iload_n 1, 1) := by decide +kernel
theorem dX12_record_22 : decode cX12_record 22 = .ok (.aload_n 0, 1) := by decide +kernel
theorem dX12_record_23 : decode cX12_record 23 = .ok (.getfield 22, 3) := by decide +kernel
theorem dX12_record_26 : decode cX12_record 26 = .ok (.iload_n 1, 1) := by decide +kernel
theorem dX12_record_27 : decode cX12_record 27 = .ok (.iconst 1, 1) := by decide +kernel
theorem dX12_record_28 : decode cX12_record 28 = .ok (.isub, 1) := by decide +kernel
theorem dX12_record_29 : decode cX12_record 29 = .ok (.invokestatic 266, 3) := by decide +kernel
theorem dX12_record_32 : decode cX12_record 32 = .ok (.iinc 1 1, 3) := by decide +kernel
theorem dX12_record_35 : decode cX12_record 35 = .ok (.goto (-24), 3) := by decide +kernel
theorem dX12_record_38 : decode cX12_record 38 = .ok (.aload_n 0, 1) := by decide +kernel
theorem dX12_record_39 : decode cX12_record 39 = .ok (.dup, 1) := by decide +kernel
theorem dX12_record_40 : decode cX12_record 40 = .ok (.getfield 270, 3) := by decide +kernel
theorem dX12_record_43 : decode cX12_record 43 = .ok (.iconst 1, 1) := by decide +kernel
theorem dX12_record_44 : decode cX12_record 44 = .ok (.isub, 1) := by decide +kernel
theorem dX12_record_45 : decode cX12_record 45 = .ok (.putfield 270, 3) := by decide +kernel
theorem dX12_record_48 : decode cX12_record 48 = .ok (.aload_n 0, 1) := by decide +kernel
theorem dX12_record_49 : decode cX12_record 49 = .ok (.getfield 9, 3) := by decide +kernel
theorem dX12_record_52 : decode cX12_record 52 = .ok (.iconst 0, 1) := by decide +kernel
theorem dX12_record_53 : decode cX12_record 53 = .ok (.aload_n 0, 1) := by decide +kernel
theorem dX12_record_54 : decode cX12_record 54 = .ok (.getfield 22, 3) := by decide +kernel
theorem dX12_record_57 : decode cX12_record 57 = .ok (.aload_n 0, 1) := by decide +kernel
theorem dX12_record_58 : decode cX12_record 58 = .ok (.getfield 270, 3) := by decide +kernel
theorem dX12_record_61 : decode cX12_record 61 = .ok (.invokestatic 266, 3) := by decide +kernel
theorem dX12_record_64 : decode cX12_record 64 = .ok (.aload_n 0, 1) := by decide +kernel
theorem dX12_record_65 : decode cX12_record 65 = .ok (.dup, 1) := by decide +kernel
theorem dX12_record_66 : decode cX12_record 66 = .ok (.getfield 270, 3) := by decide +kernel
theorem dX12_record_69 : decode cX12_record 69 = .ok (.iconst 1, 1) := by decide +kernel
theorem dX12_record_70 : decode cX12_record 70 = .ok (.iadd, 1) := by decide +kernel
theorem dX12_record_71 : decode cX12_record 71 = .ok (.putfield 270, 3) := by decide +kernel
theorem dX12_record_74 : decode cX12_record 74 = .ok (.return_, 1) := by decide +kernel
theorem dX12_undoCount_0 : decode cX12_undoCount 0 = .ok (.aload_n 0, 1) := by decide +kernel
theorem dX12_undoCount_1 : decode cX12_undoCount 1 = .ok (.iconst 0, 1) := by decide +kernel
theorem dX12_undoCount_2 : decode cX12_undoCount 2 = .ok (.putfield 70, 3) := by decide +kernel
theorem dX12_undoCount_5 : decode cX12_undoCount 5 = .ok (.aload_n 0, 1) := by decide +kernel
theorem dX12_undoCount_6 : decode cX12_undoCount 6 = .ok (.getfield 270, 3) := by decide +kernel
theorem dX12_undoCount_9 : decode cX12_undoCount 9 = .ok (.ireturn, 1) := by decide +kernel
theorem dX12_undo_0 : decode cX12_undo 0 = .ok (.aload_n 0, 1) := by decide +kernel
theorem dX12_undo_1 : decode cX12_undo 1 = .ok (.iconst 0, 1) := by decide +kernel
theorem dX12_undo_2 : decode cX12_undo 2 = .ok (.putfield 70, 3) := by decide +kernel
theorem dX12_undo_5 : decode cX12_undo 5 = .ok (.aload_n 0, 1) := by decide +kernel
theorem dX12_undo_6 : decode cX12_undo 6 = .ok (.getfield 270, 3) := by decide +kernel
theorem dX12_undo_9 : decode cX12_undo 9 = .ok (.ifCond .ne 5, 3) := by decide +kernel
theorem dX12_undo_12 : decode cX12_undo 12 = .ok (.iconst (-1), 1) := by decide +kernel
theorem dX12_undo_13 : decode cX12_undo 13 = .ok (.ireturn, 1) := by decide +kernel
theorem dX12_undo_14 : decode cX12_undo 14 = .ok (.aload_n 0, 1) := by decide +kernel
theorem dX12_undo_15 : decode cX12_undo 15 = .ok (.dup, 1) := by decide +kernel
theorem dX12_undo_16 : decode cX12_undo 16 = .ok (.getfield 270, 3) := by decide +kernel
theorem dX12_undo_19 : decode cX12_undo 19 = .ok (.iconst 1, 1) := by decide +kernel
theorem dX12_undo_20 : decode cX12_undo 20 = .ok (.isub, 1) := by decide +kernel
theorem dX12_undo_21 : decode cX12_undo 21 = .ok (.putfield 270, 3) := by decide +kernel
theorem dX12_undo_24 : decode cX12_undo 24 = .ok (.aload_n 0, 1) := by decide +kernel
theorem dX12_undo_25 : decode cX12_undo 25 = .ok (.getfield 22, 3) := by decide +kernel
theorem dX12_undo_28 : decode cX12_undo 28 = .ok (.aload_n 0, 1) := by decide +kernel
theorem dX12_undo_29 : decode cX12_undo 29 = .ok (.getfield 270, 3) := by decide +kernel
theorem dX12_undo_32 : decode cX12_undo 32 = .ok (.aload_n 0, 1) := by decide +kernel
theorem dX12_undo_33 : decode cX12_undo 33 = .ok (.getfield 9, 3) := by decide +kernel
theorem dX12_undo_36 : decode cX12_undo 36 = .ok (.iconst 0, 1) := by decide +kernel
theorem dX12_undo_37 : decode cX12_undo 37 = .ok (.invokestatic 266, 3) := by decide +kernel
theorem dX12_undo_40 : decode cX12_undo 40 = .ok (.aload_n 0, 1) := by decide +kernel
theorem dX12_undo_41 : decode cX12_undo 41 = .ok (.getfield 270, 3) := by decide +kernel
theorem dX12_undo_44 : decode cX12_undo 44 = .ok (.ireturn, 1) := by decide +kernel
theorem dX12_saveSnapshot_0 : decode cX12_saveSnapshot 0 = .ok (.aload_n 0, 1) := by decide +kernel
theorem dX12_saveSnapshot_1 : decode cX12_saveSnapshot 1 = .ok (.iconst 0, 1) := by decide +kernel
theorem dX12_saveSnapshot_2 : decode cX12_saveSnapshot 2 = .ok (.putfield 70, 3) := by decide +kernel
theorem dX12_saveSnapshot_5 : decode cX12_saveSnapshot 5 = .ok (.aload_n 0, 1) := by decide +kernel
theorem dX12_saveSnapshot_6 : decode cX12_saveSnapshot 6 = .ok (.getfield 9, 3) := by decide +kernel
theorem dX12_saveSnapshot_9 : decode cX12_saveSnapshot 9 = .ok (.iconst 0, 1) := by decide +kernel
theorem dX12_saveSnapshot_10 : decode cX12_saveSnapshot 10 = .ok (.aload_n 0, 1) := by decide +kernel
theorem dX12_saveSnapshot_11 : decode cX12_saveSnapshot 11 = .ok (.getfield 19, 3) := by decide +kernel
theorem dX12_saveSnapshot_14 : decode cX12_saveSnapshot 14 = .ok (.iconst 0, 1) := by decide +kernel
theorem dX12_saveSnapshot_15 : decode cX12_saveSnapshot 15 = .ok (.invokestatic 266, 3) := by decide +kernel
theorem dX12_saveSnapshot_18 : decode cX12_saveSnapshot 18 = .ok (.aload_n 0, 1) := by decide +kernel
theorem dX12_saveSnapshot_19 : decode cX12_saveSnapshot 19 = .ok (.iconst 1, 1) := by decide +kernel
theorem dX12_saveSnapshot_20 : decode cX12_saveSnapshot 20 = .ok (.putfield 273, 3) := by decide +kernel
theorem dX12_saveSnapshot_23 : decode cX12_saveSnapshot 23 = .ok (.return_, 1) := by decide +kernel
theorem dX12_restoreSnapshot_0 : decode cX12_restoreSnapshot 0 = .ok (.aload_n 0, 1) := by decide +kernel
theorem dX12_restoreSnapshot_1 : decode cX12_restoreSnapshot 1 = .ok (.iconst 0, 1) := by decide +kernel
theorem dX12_restoreSnapshot_2 : decode cX12_restoreSnapshot 2 = .ok (.putfield 70, 3) := by decide +kernel
theorem dX12_restoreSnapshot_5 : decode cX12_restoreSnapshot 5 = .ok (.aload_n 0, 1) := by decide +kernel
theorem dX12_restoreSnapshot_6 : decode cX12_restoreSnapshot 6 = .ok (.getfield 273, 3) := by decide +kernel
theorem dX12_restoreSnapshot_9 : decode cX12_restoreSnapshot 9 = .ok (.ifCond .ne 5, 3) := by decide +kernel
theorem dX12_restoreSnapshot_12 : decode cX12_restoreSnapshot 12 = .ok (.iconst 0, 1) := by decide +kernel
theorem dX12_restoreSnapshot_13 : decode cX12_restoreSnapshot 13 = .ok (.ireturn, 1) := by decide +kernel
theorem dX12_restoreSnapshot_14 : decode cX12_restoreSnapshot 14 = .ok (.aload_n 0, 1) := by decide +kernel
theorem dX12_restoreSnapshot_15 : decode cX12_restoreSnapshot 15 = .ok (.getfield 19, 3) := by decide +kernel
theorem dX12_restoreSnapshot_18 : decode cX12_restoreSnapshot 18 = .ok (.iconst 0, 1) := by decide +kernel
theorem dX12_restoreSnapshot_19 : decode cX12_restoreSnapshot 19 = .ok (.aload_n 0, 1) := by decide +kernel
theorem dX12_restoreSnapshot_20 : decode cX12_restoreSnapshot 20 = .ok (.getfield 9, 3) := by decide +kernel
theorem dX12_restoreSnapshot_23 : decode cX12_restoreSnapshot 23 = .ok (.iconst 0, 1) := by decide +kernel
theorem dX12_restoreSnapshot_24 : decode cX12_restoreSnapshot 24 = .ok (.invokestatic 266, 3) := by decide +kernel
theorem dX12_restoreSnapshot_27 : decode cX12_restoreSnapshot 27 = .ok (.aload_n 0, 1) := by decide +kernel
theorem dX12_restoreSnapshot_28 : decode cX12_restoreSnapshot 28 = .ok (.iconst 0, 1) := by decide +kernel
theorem dX12_restoreSnapshot_29 : decode cX12_restoreSnapshot 29 = .ok (.putfield 270, 3) := by decide +kernel
theorem dX12_restoreSnapshot_32 : decode cX12_restoreSnapshot 32 = .ok (.iconst 1, 1) := by decide +kernel
theorem dX12_restoreSnapshot_33 : decode cX12_restoreSnapshot 33 = .ok (.ireturn, 1) := by decide +kernel
theorem dX12_feed_0 : decode cX12_feed 0 = .ok (.aload_n 0, 1) := by decide +kernel
theorem dX12_feed_1 : decode cX12_feed 1 = .ok (.iconst 0, 1) := by decide +kernel
theorem dX12_feed_2 : decode cX12_feed 2 = .ok (.putfield 70, 3) := by decide +kernel
theorem dX12_feed_5 : decode cX12_feed 5 = .ok (.aload_n 0, 1) := by decide +kernel
theorem dX12_feed_6 : decode cX12_feed 6 = .ok (.getfield 277, 3) := by decide +kernel
theorem dX12_feed_9 : decode cX12_feed 9 = .ok (.bipush 20, 2) := by decide +kernel
theorem dX12_feed_11 : decode cX12_feed 11 = .ok (.iadd, 1) := by decide +kernel
theorem dX12_feed_12 : decode cX12_feed 12 = .ok (.sipush 700, 3) := by decide +kernel
theorem dX12_feed_15 : decode cX12_feed 15 = .ok (.if_icmp .le 5, 3) := by decide +kernel
theorem dX12_feed_18 : decode cX12_feed 18 = .ok (.iconst (-1), 1) := by decide +kernel
theorem dX12_feed_19 : decode cX12_feed 19 = .ok (.ireturn, 1) := by decide +kernel
theorem dX12_feed_20 : decode cX12_feed 20 = .ok (.iconst 0, 1) := by decide +kernel
theorem dX12_feed_21 : decode cX12_feed 21 = .ok (.istore 6, 2) := by decide +kernel
theorem dX12_feed_23 : decode cX12_feed 23 = .ok (.iload 6, 2) := by decide +kernel
theorem dX12_feed_25 : decode cX12_feed 25 = .ok (.bipush 20, 2) := by decide +kernel
theorem dX12_feed_27 : decode cX12_feed 27 = .ok (.if_icmp .ge 93, 3) := by decide +kernel
theorem dX12_feed_30 : decode cX12_feed 30 = .ok (.iload 6, 2) := by decide +kernel
theorem dX12_feed_32 : decode cX12_feed 32 = .ok (.iconst 4, 1) := by decide +kernel
theorem dX12_feed_33 : decode cX12_feed 33 = .ok (.if_icmp .ge 7, 3) := by decide +kernel
theorem dX12_feed_36 : decode cX12_feed 36 = .ok (.iload_n 1, 1) := by decide +kernel
theorem dX12_feed_37 : decode cX12_feed 37 = .ok (.goto 39, 3) := by decide +kernel
theorem dX12_feed_40 : decode cX12_feed 40 = .ok (.iload 6, 2) := by decide +kernel
theorem dX12_feed_42 : decode cX12_feed 42 = .ok (.bipush 8, 2) := by decide +kernel
theorem dX12_feed_44 : decode cX12_feed 44 = .ok (.if_icmp .ge 7, 3) := by decide +kernel
theorem dX12_feed_47 : decode cX12_feed 47 = .ok (.iload_n 2, 1) := by decide +kernel
theorem dX12_feed_48 : decode cX12_feed 48 = .ok (.goto 28, 3) := by decide +kernel
theorem dX12_feed_51 : decode cX12_feed 51 = .ok (.iload 6, 2) := by decide +kernel
theorem dX12_feed_53 : decode cX12_feed 53 = .ok (.bipush 12, 2) := by decide +kernel
theorem dX12_feed_55 : decode cX12_feed 55 = .ok (.if_icmp .ge 7, 3) := by decide +kernel
theorem dX12_feed_58 : decode cX12_feed 58 = .ok (.iload_n 3, 1) := by decide +kernel
theorem dX12_feed_59 : decode cX12_feed 59 = .ok (.goto 17, 3) := by decide +kernel
theorem dX12_feed_62 : decode cX12_feed 62 = .ok (.iload 6, 2) := by decide +kernel
theorem dX12_feed_64 : decode cX12_feed 64 = .ok (.bipush 16, 2) := by decide +kernel
theorem dX12_feed_66 : decode cX12_feed 66 = .ok (.if_icmp .ge 8, 3) := by decide +kernel
theorem dX12_feed_69 : decode cX12_feed 69 = .ok (.iload 4, 2) := by decide +kernel
theorem dX12_feed_71 : decode cX12_feed 71 = .ok (.goto 5, 3) := by decide +kernel
theorem dX12_feed_74 : decode cX12_feed 74 = .ok (.iload 5, 2) := by decide +kernel
theorem dX12_feed_76 : decode cX12_feed 76 = .ok (.istore 7, 2) := by decide +kernel
theorem dX12_feed_78 : decode cX12_feed 78 = .ok (.aload_n 0, 1) := by decide +kernel
theorem dX12_feed_79 : decode cX12_feed 79 = .ok (.getfield 31, 3) := by decide +kernel
theorem dX12_feed_82 : decode cX12_feed 82 = .ok (.aload_n 0, 1) := by decide +kernel
theorem dX12_feed_83 : decode cX12_feed 83 = .ok (.getfield 277, 3) := by decide +kernel
theorem dX12_feed_86 : decode cX12_feed 86 = .ok (.iload 7, 2) := by decide +kernel
theorem dX12_feed_88 : decode cX12_feed 88 = .ok (.bipush 24, 2) := by decide +kernel
theorem dX12_feed_90 : decode cX12_feed 90 = .ok (.bipush 8, 2) := by decide +kernel
theorem dX12_feed_92 : decode cX12_feed 92 = .ok (.iload 6, 2) := by decide +kernel
theorem dX12_feed_94 : decode cX12_feed 94 = .ok (.iconst 4, 1) := by decide +kernel
theorem dX12_feed_95 : decode cX12_feed 95 = .ok (.irem, 1) := by decide +kernel
theorem dX12_feed_96 : decode cX12_feed 96 = .ok (.imul, 1) := by decide +kernel
theorem dX12_feed_97 : decode cX12_feed 97 = .ok (.isub, 1) := by decide +kernel
theorem dX12_feed_98 : decode cX12_feed 98 = .ok (.ishr, 1) := by decide +kernel
theorem dX12_feed_99 : decode cX12_feed 99 = .ok (.sipush 255, 3) := by decide +kernel
theorem dX12_feed_102 : decode cX12_feed 102 = .ok (.iand, 1) := by decide +kernel
theorem dX12_feed_103 : decode cX12_feed 103 = .ok (.iastore, 1) := by decide +kernel
theorem dX12_feed_104 : decode cX12_feed 104 = .ok (.aload_n 0, 1) := by decide +kernel
theorem dX12_feed_105 : decode cX12_feed 105 = .ok (.dup, 1) := by decide +kernel
theorem dX12_feed_106 : decode cX12_feed 106 = .ok (.getfield 277, 3) := by decide +kernel
theorem dX12_feed_109 : decode cX12_feed 109 = .ok (.iconst 1, 1) := by decide +kernel
theorem dX12_feed_110 : decode cX12_feed 110 = .ok (.iadd, 1) := by decide +kernel
theorem dX12_feed_111 : decode cX12_feed 111 = .ok (.putfield 277, 3) := by decide +kernel
theorem dX12_feed_114 : decode cX12_feed 114 = .ok (.iinc 6 1, 3) := by decide +kernel
theorem dX12_feed_117 : decode cX12_feed 117 = .ok (.goto (-94), 3) := by decide +kernel
theorem dX12_feed_120 : decode cX12_feed 120 = .ok (.aload_n 0, 1) := by decide +kernel
theorem dX12_feed_121 : decode cX12_feed 121 = .ok (.getfield 277, 3) := by decide +kernel
theorem dX12_feed_124 : decode cX12_feed 124 = .ok (.ireturn, 1) := by decide +kernel
theorem dX12_errorPosition_0 : decode cX12_errorPosition 0 = .ok (.aload_n 0, 1) := by decide +kernel
theorem dX12_errorPosition_1 : decode cX12_errorPosition 1 = .ok (.iconst 0, 1) := by decide +kernel
theorem dX12_errorPosition_2 : decode cX12_errorPosition 2 = .ok (.putfield 70, 3) := by decide +kernel
theorem dX12_errorPosition_5 : decode cX12_errorPosition 5 = .ok (.aload_n 0, 1) := by decide +kernel
theorem dX12_errorPosition_6 : decode cX12_errorPosition 6 = .ok (.getfield 34, 3) := by decide +kernel
theorem dX12_errorPosition_9 : decode cX12_errorPosition 9 = .ok (.ireturn, 1) := by decide +kernel
theorem dX12_byteAt_0 : decode cX12_byteAt 0 = .ok (.iload_n 1, 1) := by decide +kernel
theorem dX12_byteAt_1 : decode cX12_byteAt 1 = .ok (.aload_n 0, 1) := by decide +kernel
theorem dX12_byteAt_2 : decode cX12_byteAt 2 = .ok (.getfield 280, 3) := by decide +kernel
theorem dX12_byteAt_5 : decode cX12_byteAt 5 = .ok (.if_icmp .ge 12, 3) := by decide +kernel
theorem dX12_byteAt_8 : decode cX12_byteAt 8 = .ok (.aload_n 0, 1) := by decide +kernel
theorem dX12_byteAt_9 : decode cX12_byteAt 9 = .ok (.getfield 31, 3) := by decide +kernel
theorem dX12_byteAt_12 : decode cX12_byteAt 12 = .ok (.iload_n 1, 1) := by decide +kernel
theorem dX12_byteAt_13 : decode cX12_byteAt 13 = .ok (.iaload, 1) := by decide +kernel
theorem dX12_byteAt_14 : decode cX12_byteAt 14 = .ok (.goto 4, 3) := by decide +kernel
theorem dX12_byteAt_17 : decode cX12_byteAt 17 = .ok (.iconst (-1), 1) := by decide +kernel
theorem dX12_byteAt_18 : decode cX12_byteAt 18 = .ok (.ireturn, 1) := by decide +kernel
theorem dX12_isLetter_0 : decode cX12_isLetter 0 = .ok (.aload_n 0, 1) := by decide +kernel
theorem dX12_isLetter_1 : decode cX12_isLetter 1 = .ok (.iload_n 1, 1) := by decide +kernel
theorem dX12_isLetter_2 : decode cX12_isLetter 2 = .ok (.invokevirtual 283, 3) := by decide +kernel
theorem dX12_isLetter_5 : decode cX12_isLetter 5 = .ok (.bipush 97, 2) := by decide +kernel
theorem dX12_isLetter_7 : decode cX12_isLetter 7 = .ok (.if_icmp .lt 17, 3) := by decide +kernel
theorem dX12_isLetter_10 : decode cX12_isLetter 10 = .ok (.aload_n 0, 1) := by decide +kernel
theorem dX12_isLetter_11 : decode cX12_isLetter 11 = .ok (.iload_n 1, 1) := by decide +kernel
theorem dX12_isLetter_12 : decode cX12_isLetter 12 = .ok (.invokevirtual 283, 3) := by decide +kernel
theorem dX12_isLetter_15 : decode cX12_isLetter 15 = .ok (.bipush 122, 2) := by decide +kernel
theorem dX12_isLetter_17 : decode cX12_isLetter 17 = .ok (.if_icmp .gt 7, 3) := by decide +kernel
theorem dX12_isLetter_20 : decode cX12_isLetter 20 = .ok (.iconst 1, 1) := by decide +kernel
theorem dX12_isLetter_21 : decode cX12_isLetter 21 = .ok (.goto 4, 3) := by decide +kernel
theorem dX12_isLetter_24 : decode cX12_isLetter 24 = .ok (.iconst 0, 1) := by decide +kernel
theorem dX12_isLetter_25 : decode cX12_isLetter 25 = .ok (.ireturn, 1) := by decide +kernel
theorem dX12_isDigit_0 : decode cX12_isDigit 0 = .ok (.aload_n 0, 1) := by decide +kernel
theorem dX12_isDigit_1 : decode cX12_isDigit 1 = .ok (.iload_n 1, 1) := by decide +kernel
theorem dX12_isDigit_2 : decode cX12_isDigit 2 = .ok (.invokevirtual 283, 3) := by decide +kernel
theorem dX12_isDigit_5 : decode cX12_isDigit 5 = .ok (.bipush 48, 2) := by decide +kernel
theorem dX12_isDigit_7 : decode cX12_isDigit 7 = .ok (.if_icmp .lt 17, 3) := by decide +kernel
theorem dX12_isDigit_10 : decode cX12_isDigit 10 = .ok (.aload_n 0, 1) := by decide +kernel
theorem dX12_isDigit_11 : decode cX12_isDigit 11 = .ok (.iload_n 1, 1) := by decide +kernel
theorem dX12_isDigit_12 : decode cX12_isDigit 12 = .ok (.invokevirtual 283, 3) := by decide +kernel
theorem dX12_isDigit_15 : decode cX12_isDigit 15 = .ok (.bipush 57, 2) := by decide +kernel
theorem dX12_isDigit_17 : decode cX12_isDigit 17 = .ok (.if_icmp .gt 7, 3) := by decide +kernel
theorem dX12_isDigit_20 : decode cX12_isDigit 20 = .ok (.iconst 1, 1) := by decide +kernel
theorem dX12_isDigit_21 : decode cX12_isDigit 21 = .ok (.goto 4, 3) := by decide +kernel
theorem dX12_isDigit_24 : decode cX12_isDigit 24 = .ok (.iconst 0, 1) := by decide +kernel
theorem dX12_isDigit_25 : decode cX12_isDigit 25 = .ok (.ireturn, 1) := by decide +kernel
theorem dX12_scan_0 : decode cX12_scan 0 = .ok (.aload_n 0, 1) := by decide +kernel
theorem dX12_scan_1 : decode cX12_scan 1 = .ok (.aload_n 0, 1) := by decide +kernel
theorem dX12_scan_2 : decode cX12_scan 2 = .ok (.getfield 286, 3) := by decide +kernel
theorem dX12_scan_5 : decode cX12_scan 5 = .ok (.invokevirtual 283, 3) := by decide +kernel
theorem dX12_scan_8 : decode cX12_scan 8 = .ok (.bipush 32, 2) := by decide +kernel
theorem dX12_scan_10 : decode cX12_scan 10 = .ok (.if_icmp .eq 16, 3) := by decide +kernel
theorem dX12_scan_13 : decode cX12_scan 13 = .ok (.aload_n 0, 1) := by decide +kernel
theorem dX12_scan_14 : decode cX12_scan 14 = .ok (.aload_n 0, 1) := by decide +kernel
theorem dX12_scan_15 : decode cX12_scan 15 = .ok (.getfield 286, 3) := by decide +kernel
theorem dX12_scan_18 : decode cX12_scan 18 = .ok (.invokevirtual 283, 3) := by decide +kernel
theorem dX12_scan_21 : decode cX12_scan 21 = .ok (.bipush 10, 2) := by decide +kernel
theorem dX12_scan_23 : decode cX12_scan 23 = .ok (.if_icmp .ne 16, 3) := by decide +kernel
theorem dX12_scan_26 : decode cX12_scan 26 = .ok (.aload_n 0, 1) := by decide +kernel
theorem dX12_scan_27 : decode cX12_scan 27 = .ok (.dup, 1) := by decide +kernel
theorem dX12_scan_28 : decode cX12_scan 28 = .ok (.getfield 286, 3) := by decide +kernel
theorem dX12_scan_31 : decode cX12_scan 31 = .ok (.iconst 1, 1) := by decide +kernel
theorem dX12_scan_32 : decode cX12_scan 32 = .ok (.iadd, 1) := by decide +kernel
theorem dX12_scan_33 : decode cX12_scan 33 = .ok (.putfield 286, 3) := by decide +kernel
theorem dX12_scan_36 : decode cX12_scan 36 = .ok (.goto (-36), 3) := by decide +kernel
theorem dX12_scan_39 : decode cX12_scan 39 = .ok (.aload_n 0, 1) := by decide +kernel
theorem dX12_scan_40 : decode cX12_scan 40 = .ok (.aload_n 0, 1) := by decide +kernel
theorem dX12_scan_41 : decode cX12_scan 41 = .ok (.getfield 286, 3) := by decide +kernel
theorem dX12_scan_44 : decode cX12_scan 44 = .ok (.putfield 289, 3) := by decide +kernel
theorem dX12_scan_47 : decode cX12_scan 47 = .ok (.aload_n 0, 1) := by decide +kernel
theorem dX12_scan_48 : decode cX12_scan 48 = .ok (.getfield 286, 3) := by decide +kernel
theorem dX12_scan_51 : decode cX12_scan 51 = .ok (.aload_n 0, 1) := by decide +kernel
theorem dX12_scan_52 : decode cX12_scan 52 = .ok (.getfield 280, 3) := by decide +kernel
theorem dX12_scan_55 : decode cX12_scan 55 = .ok (.if_icmp .lt 11, 3) := by decide +kernel
theorem dX12_scan_58 : decode cX12_scan 58 = .ok (.aload_n 0, 1) := by decide +kernel
theorem dX12_scan_59 : decode cX12_scan 59 = .ok (.iconst 0, 1) := by decide +kernel
theorem dX12_scan_60 : decode cX12_scan 60 = .ok (.putfield 292, 3) := by decide +kernel
theorem dX12_scan_63 : decode cX12_scan 63 = .ok (.goto 104, 3) := by decide +kernel
theorem dX12_scan_66 : decode cX12_scan 66 = .ok (.aload_n 0, 1) := by decide +kernel
theorem dX12_scan_67 : decode cX12_scan 67 = .ok (.aload_n 0, 1) := by decide +kernel
theorem dX12_scan_68 : decode cX12_scan 68 = .ok (.getfield 286, 3) := by decide +kernel
theorem dX12_scan_71 : decode cX12_scan 71 = .ok (.invokevirtual 295, 3) := by decide +kernel
theorem dX12_scan_74 : decode cX12_scan 74 = .ok (.ifCond .eq 35, 3) := by decide +kernel
theorem dX12_scan_77 : decode cX12_scan 77 = .ok (.aload_n 0, 1) := by decide +kernel
theorem dX12_scan_78 : decode cX12_scan 78 = .ok (.aload_n 0, 1) := by decide +kernel
theorem dX12_scan_79 : decode cX12_scan 79 = .ok (.getfield 286, 3) := by decide +kernel
theorem dX12_scan_82 : decode cX12_scan 82 = .ok (.invokevirtual 295, 3) := by decide +kernel
theorem dX12_scan_85 : decode cX12_scan 85 = .ok (.ifCond .eq 16, 3) := by decide +kernel
theorem dX12_scan_88 : decode cX12_scan 88 = .ok (.aload_n 0, 1) := by decide +kernel
theorem dX12_scan_89 : decode cX12_scan 89 = .ok (.dup, 1) := by decide +kernel
theorem dX12_scan_90 : decode cX12_scan 90 = .ok (.getfield 286, 3) := by decide +kernel
theorem dX12_scan_93 : decode cX12_scan 93 = .ok (.iconst 1, 1) := by decide +kernel
theorem dX12_scan_94 : decode cX12_scan 94 = .ok (.iadd, 1) := by decide +kernel
theorem dX12_scan_95 : decode cX12_scan 95 = .ok (.putfield 286, 3) := by decide +kernel
theorem dX12_scan_98 : decode cX12_scan 98 = .ok (.goto (-21), 3) := by decide +kernel
theorem dX12_scan_101 : decode cX12_scan 101 = .ok (.aload_n 0, 1) := by decide +kernel
theorem dX12_scan_102 : decode cX12_scan 102 = .ok (.iconst 1, 1) := by decide +kernel
theorem dX12_scan_103 : decode cX12_scan 103 = .ok (.putfield 292, 3) := by decide +kernel
theorem dX12_scan_106 : decode cX12_scan 106 = .ok (.goto 61, 3) := by decide +kernel
theorem dX12_scan_109 : decode cX12_scan 109 = .ok (.aload_n 0, 1) := by decide +kernel
theorem dX12_scan_110 : decode cX12_scan 110 = .ok (.aload_n 0, 1) := by decide +kernel
theorem dX12_scan_111 : decode cX12_scan 111 = .ok (.getfield 286, 3) := by decide +kernel
theorem dX12_scan_114 : decode cX12_scan 114 = .ok (.invokevirtual 298, 3) := by decide +kernel
theorem dX12_scan_117 : decode cX12_scan 117 = .ok (.ifCond .eq 35, 3) := by decide +kernel
theorem dX12_scan_120 : decode cX12_scan 120 = .ok (.aload_n 0, 1) := by decide +kernel
theorem dX12_scan_121 : decode cX12_scan 121 = .ok (.aload_n 0, 1) := by decide +kernel
theorem dX12_scan_122 : decode cX12_scan 122 = .ok (.getfield 286, 3) := by decide +kernel
theorem dX12_scan_125 : decode cX12_scan 125 = .ok (.invokevirtual 298, 3) := by decide +kernel
theorem dX12_scan_128 : decode cX12_scan 128 = .ok (.ifCond .eq 16, 3) := by decide +kernel
theorem dX12_scan_131 : decode cX12_scan 131 = .ok (.aload_n 0, 1) := by decide +kernel
theorem dX12_scan_132 : decode cX12_scan 132 = .ok (.dup, 1) := by decide +kernel
theorem dX12_scan_133 : decode cX12_scan 133 = .ok (.getfield 286, 3) := by decide +kernel
theorem dX12_scan_136 : decode cX12_scan 136 = .ok (.iconst 1, 1) := by decide +kernel
theorem dX12_scan_137 : decode cX12_scan 137 = .ok (.iadd, 1) := by decide +kernel
theorem dX12_scan_138 : decode cX12_scan 138 = .ok (.putfield 286, 3) := by decide +kernel
theorem dX12_scan_141 : decode cX12_scan 141 = .ok (.goto (-21), 3) := by decide +kernel
theorem dX12_scan_144 : decode cX12_scan 144 = .ok (.aload_n 0, 1) := by decide +kernel
theorem dX12_scan_145 : decode cX12_scan 145 = .ok (.iconst 2, 1) := by decide +kernel
theorem dX12_scan_146 : decode cX12_scan 146 = .ok (.putfield 292, 3) := by decide +kernel
theorem dX12_scan_149 : decode cX12_scan 149 = .ok (.goto 18, 3) := by decide +kernel
theorem dX12_scan_152 : decode cX12_scan 152 = .ok (.aload_n 0, 1) := by decide +kernel
theorem dX12_scan_153 : decode cX12_scan 153 = .ok (.dup, 1) := by decide +kernel
theorem dX12_scan_154 : decode cX12_scan 154 = .ok (.getfield 286, 3) := by decide +kernel
theorem dX12_scan_157 : decode cX12_scan 157 = .ok (.iconst 1, 1) := by decide +kernel
theorem dX12_scan_158 : decode cX12_scan 158 = .ok (.iadd, 1) := by decide +kernel
theorem dX12_scan_159 : decode cX12_scan 159 = .ok (.putfield 286, 3) := by decide +kernel
theorem dX12_scan_162 : decode cX12_scan 162 = .ok (.aload_n 0, 1) := by decide +kernel
theorem dX12_scan_163 : decode cX12_scan 163 = .ok (.iconst 3, 1) := by decide +kernel
theorem dX12_scan_164 : decode cX12_scan 164 = .ok (.putfield 292, 3) := by decide +kernel
theorem dX12_scan_167 : decode cX12_scan 167 = .ok (.return_, 1) := by decide +kernel
theorem dX12_start_0 : decode cX12_start 0 = .ok (.aload_n 0, 1) := by decide +kernel
theorem dX12_start_1 : decode cX12_start 1 = .ok (.iload_n 1, 1) := by decide +kernel
theorem dX12_start_2 : decode cX12_start 2 = .ok (.putfield 280, 3) := by decide +kernel
theorem dX12_start_5 : decode cX12_start 5 = .ok (.aload_n 0, 1) := by decide +kernel
theorem dX12_start_6 : decode cX12_start 6 = .ok (.iconst 0, 1) := by decide +kernel
theorem dX12_start_7 : decode cX12_start 7 = .ok (.putfield 286, 3) := by decide +kernel
theorem dX12_start_10 : decode cX12_start 10 = .ok (.aload_n 0, 1) := by decide +kernel
theorem dX12_start_11 : decode cX12_start 11 = .ok (.iconst 0, 1) := by decide +kernel
theorem dX12_start_12 : decode cX12_start 12 = .ok (.putfield 301, 3) := by decide +kernel
theorem dX12_start_15 : decode cX12_start 15 = .ok (.aload_n 0, 1) := by decide +kernel
theorem dX12_start_16 : decode cX12_start 16 = .ok (.iconst 0, 1) := by decide +kernel
theorem dX12_start_17 : decode cX12_start 17 = .ok (.putfield 304, 3) := by decide +kernel
theorem dX12_start_20 : decode cX12_start 20 = .ok (.aload_n 0, 1) := by decide +kernel
theorem dX12_start_21 : decode cX12_start 21 = .ok (.invokevirtual 307, 3) := by decide +kernel
theorem dX12_start_24 : decode cX12_start 24 = .ok (.return_, 1) := by decide +kernel
theorem dX12_finish__0 : decode cX12_finish_ 0 = .ok (.aload_n 0, 1) := by decide +kernel
theorem dX12_finish__1 : decode cX12_finish_ 1 = .ok (.iconst 0, 1) := by decide +kernel
theorem dX12_finish__2 : decode cX12_finish_ 2 = .ok (.putfield 277, 3) := by decide +kernel
theorem dX12_finish__5 : decode cX12_finish_ 5 = .ok (.aload_n 0, 1) := by decide +kernel
theorem dX12_finish__6 : decode cX12_finish_ 6 = .ok (.aload_n 0, 1) := by decide +kernel
theorem dX12_finish__7 : decode cX12_finish_ 7 = .ok (.getfield 301, 3) := by decide +kernel
theorem dX12_finish__10 : decode cX12_finish_ 10 = .ok (.ifCond .ne 7, 3) := by decide +kernel
theorem dX12_finish__13 : decode cX12_finish_ 13 = .ok (.iconst (-1), 1) := by decide +kernel
theorem dX12_finish__14 : decode cX12_finish_ 14 = .ok (.goto 7, 3) := by decide +kernel
theorem dX12_finish__17 : decode cX12_finish_ 17 = .ok (.aload_n 0, 1) := by decide +kernel
theorem dX12_finish__18 : decode cX12_finish_ 18 = .ok (.getfield 310, 3) := by decide +kernel
theorem dX12_finish__21 : decode cX12_finish_ 21 = .ok (.putfield 34, 3) := by decide +kernel
theorem dX12_finish__24 : decode cX12_finish_ 24 = .ok (.aload_n 0, 1) := by decide +kernel
theorem dX12_finish__25 : decode cX12_finish_ 25 = .ok (.getfield 301, 3) := by decide +kernel
theorem dX12_finish__28 : decode cX12_finish_ 28 = .ok (.ireturn, 1) := by decide +kernel
theorem dX12_fail_0 : decode cX12_fail 0 = .ok (.aload_n 0, 1) := by decide +kernel
theorem dX12_fail_1 : decode cX12_fail 1 = .ok (.getfield 301, 3) := by decide +kernel
theorem dX12_fail_4 : decode cX12_fail 4 = .ok (.ifCond .ne 16, 3) := by decide +kernel
theorem dX12_fail_7 : decode cX12_fail 7 = .ok (.aload_n 0, 1) := by decide +kernel
theorem dX12_fail_8 : decode cX12_fail 8 = .ok (.iload_n 1, 1) := by decide +kernel
theorem dX12_fail_9 : decode cX12_fail 9 = .ok (.putfield 301, 3) := by decide +kernel
theorem dX12_fail_12 : decode cX12_fail 12 = .ok (.aload_n 0, 1) := by decide +kernel
theorem dX12_fail_13 : decode cX12_fail 13 = .ok (.aload_n 0, 1) := by decide +kernel
theorem dX12_fail_14 : decode cX12_fail 14 = .ok (.getfield 289, 3) := by decide +kernel
theorem dX12_fail_17 : decode cX12_fail 17 = .ok (.putfield 310, 3) := by decide +kernel
theorem dX12_fail_20 : decode cX12_fail 20 = .ok (.return_, 1) := by decide +kernel
theorem dX12_check_0 : decode cX12_check 0 = .ok (.iload_n 1, 1) := by decide +kernel
theorem dX12_check_1 : decode cX12_check 1 = .ok (.ifCond .ne 8, 3) := by decide +kernel
theorem dX12_check_4 : decode cX12_check 4 = .ok (.aload_n 0, 1) := by decide +kernel
theorem dX12_check_5 : decode cX12_check 5 = .ok (.iload_n 2, 1) := by decide +kernel
theorem dX12_check_6 : decode cX12_check 6 = .ok (.invokevirtual 313, 3) := by decide +kernel
theorem dX12_check_9 : decode cX12_check 9 = .ok (.return_, 1) := by decide +kernel
theorem dX12_advance_0 : decode cX12_advance 0 = .ok (.aload_n 0, 1) := by decide +kernel
theorem dX12_advance_1 : decode cX12_advance 1 = .ok (.getfield 301, 3) := by decide +kernel
theorem dX12_advance_4 : decode cX12_advance 4 = .ok (.ifCond .ne 7, 3) := by decide +kernel
theorem dX12_advance_7 : decode cX12_advance 7 = .ok (.aload_n 0, 1) := by decide +kernel
theorem dX12_advance_8 : decode cX12_advance 8 = .ok (.invokevirtual 307, 3) := by decide +kernel
theorem dX12_advance_11 : decode cX12_advance 11 = .ok (.return_, 1) := by decide +kernel
theorem dX12_isSymbol_0 : decode cX12_isSymbol 0 = .ok (.aload_n 0, 1) := by decide +kernel
theorem dX12_isSymbol_1 : decode cX12_isSymbol 1 = .ok (.getfield 301, 3) := by decide +kernel
theorem dX12_isSymbol_4 : decode cX12_isSymbol 4 = .ok (.ifCond .ne 28, 3) := by decide +kernel
theorem dX12_isSymbol_7 : decode cX12_isSymbol 7 = .ok (.aload_n 0, 1) := by decide +kernel
theorem dX12_isSymbol_8 : decode cX12_isSymbol 8 = .ok (.getfield 292, 3) := by decide +kernel
theorem dX12_isSymbol_11 : decode cX12_isSymbol 11 = .ok (.iconst 3, 1) := by decide +kernel
theorem dX12_isSymbol_12 : decode cX12_isSymbol 12 = .ok (.if_icmp .ne 20, 3) := by decide +kernel
theorem dX12_isSymbol_15 : decode cX12_isSymbol 15 = .ok (.aload_n 0, 1) := by decide +kernel
theorem dX12_isSymbol_16 : decode cX12_isSymbol 16 = .ok (.getfield 31, 3) := by decide +kernel
theorem dX12_isSymbol_19 : decode cX12_isSymbol 19 = .ok (.aload_n 0, 1) := by decide +kernel
theorem dX12_isSymbol_20 : decode cX12_isSymbol 20 = .ok (.getfield 289, 3) := by decide +kernel
theorem dX12_isSymbol_23 : decode cX12_isSymbol 23 = .ok (.iaload, 1) := by decide +kernel
theorem dX12_isSymbol_24 : decode cX12_isSymbol 24 = .ok (.iload_n 1, 1) := by decide +kernel
theorem dX12_isSymbol_25 : decode cX12_isSymbol 25 = .ok (.if_icmp .ne 7, 3) := by decide +kernel
theorem dX12_isSymbol_28 : decode cX12_isSymbol 28 = .ok (.iconst 1, 1) := by decide +kernel
theorem dX12_isSymbol_29 : decode cX12_isSymbol 29 = .ok (.goto 4, 3) := by decide +kernel
theorem dX12_isSymbol_32 : decode cX12_isSymbol 32 = .ok (.iconst 0, 1) := by decide +kernel
theorem dX12_isSymbol_33 : decode cX12_isSymbol 33 = .ok (.ireturn, 1) := by decide +kernel
theorem dX12_isWord_0 : decode cX12_isWord 0 = .ok (.aload_n 0, 1) := by decide +kernel
theorem dX12_isWord_1 : decode cX12_isWord 1 = .ok (.getfield 301, 3) := by decide +kernel
theorem dX12_isWord_4 : decode cX12_isWord 4 = .ok (.ifCond .ne 31, 3) := by decide +kernel
theorem dX12_isWord_7 : decode cX12_isWord 7 = .ok (.aload_n 0, 1) := by decide +kernel
theorem dX12_isWord_8 : decode cX12_isWord 8 = .ok (.getfield 292, 3) := by decide +kernel
theorem dX12_isWord_11 : decode cX12_isWord 11 = .ok (.iconst 1, 1) := by decide +kernel
theorem dX12_isWord_12 : decode cX12_isWord 12 = .ok (.if_icmp .ne 23, 3) := by decide +kernel
theorem dX12_isWord_15 : decode cX12_isWord 15 = .ok (.aload_n 1, 1) := by decide +kernel
theorem dX12_isWord_16 : decode cX12_isWord 16 = .ok (.invokevirtual 316, 3) := by decide +kernel
theorem dX12_isWord_19 : decode cX12_isWord 19 = .ok (.aload_n 0, 1) := by decide +kernel
theorem dX12_isWord_20 : decode cX12_isWord 20 = .ok (.getfield 286, 3) := by decide +kernel
theorem dX12_isWord_23 : decode cX12_isWord 23 = .ok (.aload_n 0, 1) := by decide +kernel
theorem dX12_isWord_24 : decode cX12_isWord 24 = .ok (.getfield 289, 3) := by decide +kernel
theorem dX12_isWord_27 : decode cX12_isWord 27 = .ok (.isub, 1) := by decide +kernel
theorem dX12_isWord_28 : decode cX12_isWord 28 = .ok (.if_icmp .ne 7, 3) := by decide +kernel
theorem dX12_isWord_31 : decode cX12_isWord 31 = .ok (.iconst 1, 1) := by decide +kernel
theorem dX12_isWord_32 : decode cX12_isWord 32 = .ok (.goto 4, 3) := by decide +kernel
theorem dX12_isWord_35 : decode cX12_isWord 35 = .ok (.iconst 0, 1) := by decide +kernel
theorem dX12_isWord_36 : decode cX12_isWord 36 = .ok (.istore_n 2, 1) := by decide +kernel
theorem dX12_isWord_37 : decode cX12_isWord 37 = .ok (.iconst 0, 1) := by decide +kernel
theorem dX12_isWord_38 : decode cX12_isWord 38 = .ok (.istore_n 3, 1) := by decide +kernel
theorem dX12_isWord_39 : decode cX12_isWord 39 = .ok (.iload_n 2, 1) := by decide +kernel
theorem dX12_isWord_40 : decode cX12_isWord 40 = .ok (.ifCond .eq 42, 3) := by decide +kernel
theorem dX12_isWord_43 : decode cX12_isWord 43 = .ok (.iload_n 3, 1) := by decide +kernel
theorem dX12_isWord_44 : decode cX12_isWord 44 = .ok (.aload_n 1, 1) := by decide +kernel
theorem dX12_isWord_45 : decode cX12_isWord 45 = .ok (.invokevirtual 316, 3) := by decide +kernel
theorem dX12_isWord_48 : decode cX12_isWord 48 = .ok (.if_icmp .ge 34, 3) := by decide +kernel
theorem dX12_isWord_51 : decode cX12_isWord 51 = .ok (.aload_n 1, 1) := by decide +kernel
theorem dX12_isWord_52 : decode cX12_isWord 52 = .ok (.iload_n 3, 1) := by decide +kernel
theorem dX12_isWord_53 : decode cX12_isWord 53 = .ok (.invokevirtual 320, 3) := by decide +kernel
theorem dX12_isWord_56 : decode cX12_isWord 56 = .ok (.aload_n 0, 1) := by decide +kernel
theorem dX12_isWord_57 : decode cX12_isWord 57 = .ok (.getfield 31, 3) := by decide +kernel
theorem dX12_isWord_60 : decode cX12_isWord 60 = .ok (.aload_n 0, 1) := by decide +kernel
theorem dX12_isWord_61 : decode cX12_isWord 61 = .ok (.getfield 289, 3) := by decide +kernel
theorem dX12_isWord_64 : decode cX12_isWord 64 = .ok (.iload_n 3, 1) := by decide +kernel
theorem dX12_isWord_65 : decode cX12_isWord 65 = .ok (.iadd, 1) := by decide +kernel
theorem dX12_isWord_66 : decode cX12_isWord 66 = .ok (.iaload, 1) := by decide +kernel
theorem dX12_isWord_67 : decode cX12_isWord 67 = .ok (.if_icmp .ne 7, 3) := by decide +kernel
theorem dX12_isWord_70 : decode cX12_isWord 70 = .ok (.iconst 1, 1) := by decide +kernel
theorem dX12_isWord_71 : decode cX12_isWord 71 = .ok (.goto 4, 3) := by decide +kernel
theorem dX12_isWord_74 : decode cX12_isWord 74 = .ok (.iconst 0, 1) := by decide +kernel
theorem dX12_isWord_75 : decode cX12_isWord 75 = .ok (.istore_n 2, 1) := by decide +kernel
theorem dX12_isWord_76 : decode cX12_isWord 76 = .ok (.iinc 3 1, 3) := by decide +kernel
theorem dX12_isWord_79 : decode cX12_isWord 79 = .ok (.goto (-40), 3) := by decide +kernel
theorem dX12_isWord_82 : decode cX12_isWord 82 = .ok (.iload_n 2, 1) := by decide +kernel
theorem dX12_isWord_83 : decode cX12_isWord 83 = .ok (.ireturn, 1) := by decide +kernel
theorem dX12_accept_0 : decode cX12_accept 0 = .ok (.aload_n 0, 1) := by decide +kernel
theorem dX12_accept_1 : decode cX12_accept 1 = .ok (.aload_n 1, 1) := by decide +kernel
theorem dX12_accept_2 : decode cX12_accept 2 = .ok (.invokevirtual 324, 3) := by decide +kernel
theorem dX12_accept_5 : decode cX12_accept 5 = .ok (.istore_n 2, 1) := by decide +kernel
theorem dX12_accept_6 : decode cX12_accept 6 = .ok (.iload_n 2, 1) := by decide +kernel
theorem dX12_accept_7 : decode cX12_accept 7 = .ok (.ifCond .eq 7, 3) := by decide +kernel
theorem dX12_accept_10 : decode cX12_accept 10 = .ok (.aload_n 0, 1) := by decide +kernel
theorem dX12_accept_11 : decode cX12_accept 11 = .ok (.invokevirtual 307, 3) := by decide +kernel
theorem dX12_accept_14 : decode cX12_accept 14 = .ok (.iload_n 2, 1) := by decide +kernel
theorem dX12_accept_15 : decode cX12_accept 15 = .ok (.ireturn, 1) := by decide +kernel
theorem dX12_expectWord_0 : decode cX12_expectWord 0 = .ok (.aload_n 0, 1) := by decide +kernel
theorem dX12_expectWord_1 : decode cX12_expectWord 1 = .ok (.aload_n 0, 1) := by decide +kernel
theorem dX12_expectWord_2 : decode cX12_expectWord 2 = .ok (.aload_n 1, 1) := by decide +kernel
theorem dX12_expectWord_3 : decode cX12_expectWord 3 = .ok (.invokevirtual 324, 3) := by decide +kernel
theorem dX12_expectWord_6 : decode cX12_expectWord 6 = .ok (.iconst 1, 1) := by decide +kernel
theorem dX12_expectWord_7 : decode cX12_expectWord 7 = .ok (.invokevirtual 328, 3) := by decide +kernel
theorem dX12_expectWord_10 : decode cX12_expectWord 10 = .ok (.aload_n 0, 1) := by decide +kernel
theorem dX12_expectWord_11 : decode cX12_expectWord 11 = .ok (.invokevirtual 332, 3) := by decide +kernel
theorem dX12_expectWord_14 : decode cX12_expectWord 14 = .ok (.return_, 1) := by decide +kernel
theorem dX12_expect_0 : decode cX12_expect 0 = .ok (.aload_n 0, 1) := by decide +kernel
theorem dX12_expect_1 : decode cX12_expect 1 = .ok (.aload_n 0, 1) := by decide +kernel
theorem dX12_expect_2 : decode cX12_expect 2 = .ok (.iload_n 1, 1) := by decide +kernel
theorem dX12_expect_3 : decode cX12_expect 3 = .ok (.invokevirtual 335, 3) := by decide +kernel
theorem dX12_expect_6 : decode cX12_expect 6 = .ok (.iconst 1, 1) := by decide +kernel
theorem dX12_expect_7 : decode cX12_expect 7 = .ok (.invokevirtual 328, 3) := by decide +kernel
theorem dX12_expect_10 : decode cX12_expect 10 = .ok (.aload_n 0, 1) := by decide +kernel
theorem dX12_expect_11 : decode cX12_expect 11 = .ok (.invokevirtual 332, 3) := by decide +kernel
theorem dX12_expect_14 : decode cX12_expect 14 = .ok (.return_, 1) := by decide +kernel
theorem dX12_value_0 : decode cX12_value 0 = .ok (.iconst 0, 1) := by decide +kernel
theorem dX12_value_1 : decode cX12_value 1 = .ok (.istore_n 1, 1) := by decide +kernel
theorem dX12_value_2 : decode cX12_value 2 = .ok (.aload_n 0, 1) := by decide +kernel
theorem dX12_value_3 : decode cX12_value 3 = .ok (.getfield 289, 3) := by decide +kernel
theorem dX12_value_6 : decode cX12_value 6 = .ok (.istore_n 2, 1) := by decide +kernel
theorem dX12_value_7 : decode cX12_value 7 = .ok (.iload_n 2, 1) := by decide +kernel
theorem dX12_value_8 : decode cX12_value 8 = .ok (.aload_n 0, 1) := by decide +kernel
theorem dX12_value_9 : decode cX12_value 9 = .ok (.getfield 286, 3) := by decide +kernel
theorem dX12_value_12 : decode cX12_value 12 = .ok (.if_icmp .ge 38, 3) := by decide +kernel
theorem dX12_value_15 : decode cX12_value 15 = .ok (.aload_n 0, 1) := by decide +kernel
theorem dX12_value_16 : decode cX12_value 16 = .ok (.getfield 292, 3) := by decide +kernel
theorem dX12_value_19 : decode cX12_value 19 = .ok (.iconst 2, 1) := by decide +kernel
theorem dX12_value_20 : decode cX12_value 20 = .ok (.if_icmp .ne 30, 3) := by decide +kernel
theorem dX12_value_23 : decode cX12_value 23 = .ok (.ldc_w 338, 3) := by decide +kernel
theorem dX12_value_26 : decode cX12_value 26 = .ok (.bipush 10, 2) := by decide +kernel
theorem dX12_value_28 : decode cX12_value 28 = .ok (.iload_n 1, 1) := by decide +kernel
theorem dX12_value_29 : decode cX12_value 29 = .ok (.imul, 1) := by decide +kernel
theorem dX12_value_30 : decode cX12_value 30 = .ok (.aload_n 0, 1) := by decide +kernel
theorem dX12_value_31 : decode cX12_value 31 = .ok (.getfield 31, 3) := by decide +kernel
theorem dX12_value_34 : decode cX12_value 34 = .ok (.iload_n 2, 1) := by decide +kernel
theorem dX12_value_35 : decode cX12_value 35 = .ok (.iaload, 1) := by decide +kernel
theorem dX12_value_36 : decode cX12_value 36 = .ok (.iadd, 1) := by decide +kernel
theorem dX12_value_37 : decode cX12_value 37 = .ok (.bipush 48, 2) := by decide +kernel
theorem dX12_value_39 : decode cX12_value 39 = .ok (.isub, 1) := by decide +kernel
theorem dX12_value_40 : decode cX12_value 40 = .ok (.invokestatic 223, 3) := by decide +kernel
theorem dX12_value_43 : decode cX12_value 43 = .ok (.istore_n 1, 1) := by decide +kernel
theorem dX12_value_44 : decode cX12_value 44 = .ok (.iinc 2 1, 3) := by decide +kernel
theorem dX12_value_47 : decode cX12_value 47 = .ok (.goto (-40), 3) := by decide +kernel
theorem dX12_value_50 : decode cX12_value 50 = .ok (.iload_n 1, 1) := by decide +kernel
theorem dX12_value_51 : decode cX12_value 51 = .ok (.ireturn, 1) := by decide +kernel
theorem dX12_number_0 : decode cX12_number 0 = .ok (.aload_n 0, 1) := by decide +kernel
theorem dX12_number_1 : decode cX12_number 1 = .ok (.aload_n 0, 1) := by decide +kernel
theorem dX12_number_2 : decode cX12_number 2 = .ok (.getfield 301, 3) := by decide +kernel
theorem dX12_number_5 : decode cX12_number 5 = .ok (.ifCond .ne 11, 3) := by decide +kernel
theorem dX12_number_8 : decode cX12_number 8 = .ok (.aload_n 0, 1) := by decide +kernel
theorem dX12_number_9 : decode cX12_number 9 = .ok (.getfield 292, 3) := by decide +kernel
theorem dX12_number_12 : decode cX12_number 12 = .ok (.iconst 2, 1) := by decide +kernel
theorem dX12_number_13 : decode cX12_number 13 = .ok (.if_icmp .ne 7, 3) := by decide +kernel
theorem dX12_number_16 : decode cX12_number 16 = .ok (.iconst 1, 1) := by decide +kernel
theorem dX12_number_17 : decode cX12_number 17 = .ok (.goto 4, 3) := by decide +kernel
theorem dX12_number_20 : decode cX12_number 20 = .ok (.iconst 0, 1) := by decide +kernel
theorem dX12_number_21 : decode cX12_number 21 = .ok (.iconst 1, 1) := by decide +kernel
theorem dX12_number_22 : decode cX12_number 22 = .ok (.invokevirtual 328, 3) := by decide +kernel
theorem dX12_number_25 : decode cX12_number 25 = .ok (.aload_n 0, 1) := by decide +kernel
theorem dX12_number_26 : decode cX12_number 26 = .ok (.invokevirtual 339, 3) := by decide +kernel
theorem dX12_number_29 : decode cX12_number 29 = .ok (.istore_n 3, 1) := by decide +kernel
theorem dX12_number_30 : decode cX12_number 30 = .ok (.aload_n 0, 1) := by decide +kernel
theorem dX12_number_31 : decode cX12_number 31 = .ok (.aload_n 0, 1) := by decide +kernel
theorem dX12_number_32 : decode cX12_number 32 = .ok (.getfield 301, 3) := by decide +kernel
theorem dX12_number_35 : decode cX12_number 35 = .ok (.ifCond .ne 12, 3) := by decide +kernel
theorem dX12_number_38 : decode cX12_number 38 = .ok (.iload_n 3, 1) := by decide +kernel
theorem dX12_number_39 : decode cX12_number 39 = .ok (.iload_n 1, 1) := by decide +kernel
theorem dX12_number_40 : decode cX12_number 40 = .ok (.iload_n 2, 1) := by decide +kernel
theorem dX12_number_41 : decode cX12_number 41 = .ok (.invokestatic 73, 3) := by decide +kernel
theorem dX12_number_44 : decode cX12_number 44 = .ok (.ifCond .eq 7, 3) := by decide +kernel
theorem dX12_number_47 : decode cX12_number 47 = .ok (.iconst 1, 1) := by decide +kernel
theorem dX12_number_48 : decode cX12_number 48 = .ok (.goto 4, 3) := by decide +kernel
theorem dX12_number_51 : decode cX12_number 51 = .ok (.iconst 0, 1) := by decide +kernel
theorem dX12_number_52 : decode cX12_number 52 = .ok (.iconst 2, 1) := by decide +kernel
theorem dX12_number_53 : decode cX12_number 53 = .ok (.invokevirtual 328, 3) := by decide +kernel
theorem dX12_number_56 : decode cX12_number 56 = .ok (.aload_n 0, 1) := by decide +kernel
theorem dX12_number_57 : decode cX12_number 57 = .ok (.invokevirtual 332, 3) := by decide +kernel
theorem dX12_number_60 : decode cX12_number 60 = .ok (.aload_n 0, 1) := by decide +kernel
theorem dX12_number_61 : decode cX12_number 61 = .ok (.getfield 301, 3) := by decide +kernel
theorem dX12_number_64 : decode cX12_number 64 = .ok (.ifCond .ne 7, 3) := by decide +kernel
theorem dX12_number_67 : decode cX12_number 67 = .ok (.iload_n 3, 1) := by decide +kernel
theorem dX12_number_68 : decode cX12_number 68 = .ok (.goto 4, 3) := by decide +kernel
theorem dX12_number_71 : decode cX12_number 71 = .ok (.iload_n 1, 1) := by decide +kernel
theorem dX12_number_72 : decode cX12_number 72 = .ok (.ireturn, 1) := by decide +kernel
theorem dX12_existing_0 : decode cX12_existing 0 = .ok (.aload_n 0, 1) := by decide +kernel
theorem dX12_existing_1 : decode cX12_existing 1 = .ok (.iconst 0, 1) := by decide +kernel
theorem dX12_existing_2 : decode cX12_existing 2 = .ok (.aload_n 0, 1) := by decide +kernel
theorem dX12_existing_3 : decode cX12_existing 3 = .ok (.getfield 13, 3) := by decide +kernel
theorem dX12_existing_6 : decode cX12_existing 6 = .ok (.iconst 0, 1) := by decide +kernel
theorem dX12_existing_7 : decode cX12_existing 7 = .ok (.iaload, 1) := by decide +kernel
theorem dX12_existing_8 : decode cX12_existing 8 = .ok (.iconst 1, 1) := by decide +kernel
theorem dX12_existing_9 : decode cX12_existing 9 = .ok (.isub, 1) := by decide +kernel
theorem dX12_existing_10 : decode cX12_existing 10 = .ok (.invokevirtual 342, 3) := by decide +kernel
theorem dX12_existing_13 : decode cX12_existing 13 = .ok (.ireturn, 1) := by decide +kernel
theorem dX12_putNumber_0 : decode cX12_putNumber 0 = .ok (.aload_n 0, 1) := by decide +kernel
theorem dX12_putNumber_1 : decode cX12_putNumber 1 = .ok (.iload_n 2, 1) := by decide +kernel
theorem dX12_putNumber_2 : decode cX12_putNumber 2 = .ok (.iload_n 3, 1) := by decide +kernel
theorem dX12_putNumber_3 : decode cX12_putNumber 3 = .ok (.invokevirtual 342, 3) := by decide +kernel
theorem dX12_putNumber_6 : decode cX12_putNumber 6 = .ok (.istore 4, 2) := by decide +kernel
theorem dX12_putNumber_8 : decode cX12_putNumber 8 = .ok (.aload_n 0, 1) := by decide +kernel
theorem dX12_putNumber_9 : decode cX12_putNumber 9 = .ok (.getfield 301, 3) := by decide +kernel
theorem dX12_putNumber_12 : decode cX12_putNumber 12 = .ok (.ifCond .ne 11, 3) := by decide +kernel
theorem dX12_putNumber_15 : decode cX12_putNumber 15 = .ok (.aload_n 0, 1) := by decide +kernel
theorem dX12_putNumber_16 : decode cX12_putNumber 16 = .ok (.getfield 13, 3) := by decide +kernel
theorem dX12_putNumber_19 : decode cX12_putNumber 19 = .ok (.iload_n 1, 1) := by decide +kernel
theorem dX12_putNumber_20 : decode cX12_putNumber 20 = .ok (.iload 4, 2) := by decide +kernel
theorem dX12_putNumber_22 : decode cX12_putNumber 22 = .ok (.iastore, 1) := by decide +kernel
theorem dX12_putNumber_23 : decode cX12_putNumber 23 = .ok (.return_, 1) := by decide +kernel
theorem dX12_readCell_0 : decode cX12_readCell 0 = .ok (.aload_n 0, 1) := by decide +kernel
theorem dX12_readCell_1 : decode cX12_readCell 1 = .ok (.aload_n 0, 1) := by decide +kernel
theorem dX12_readCell_2 : decode cX12_readCell 2 = .ok (.getfield 13, 3) := by decide +kernel
theorem dX12_readCell_5 : decode cX12_readCell 5 = .ok (.iconst 0, 1) := by decide +kernel
theorem dX12_readCell_6 : decode cX12_readCell 6 = .ok (.iaload, 1) := by decide +kernel
theorem dX12_readCell_7 : decode cX12_readCell 7 = .ok (.bipush 8, 2) := by decide +kernel
theorem dX12_readCell_9 : decode cX12_readCell 9 = .ok (.if_icmp .ge 7, 3) := by decide +kernel
theorem dX12_readCell_12 : decode cX12_readCell 12 = .ok (.iconst 1, 1) := by decide +kernel
theorem dX12_readCell_13 : decode cX12_readCell 13 = .ok (.goto 4, 3) := by decide +kernel
theorem dX12_readCell_16 : decode cX12_readCell 16 = .ok (.iconst 0, 1) := by decide +kernel
theorem dX12_readCell_17 : decode cX12_readCell 17 = .ok (.iconst 3, 1) := by decide +kernel
theorem dX12_readCell_18 : decode cX12_readCell 18 = .ok (.invokevirtual 328, 3) := by decide +kernel
theorem dX12_readCell_21 : decode cX12_readCell 21 = .ok (.aload_n 0, 1) := by decide +kernel
theorem dX12_readCell_22 : decode cX12_readCell 22 = .ok (.invokevirtual 332, 3) := by decide +kernel
theorem dX12_readCell_25 : decode cX12_readCell 25 = .ok (.bipush 18, 2) := by decide +kernel
theorem dX12_readCell_27 : decode cX12_readCell 27 = .ok (.bipush 9, 2) := by decide +kernel
theorem dX12_readCell_29 : decode cX12_readCell 29 = .ok (.aload_n 0, 1) := by decide +kernel
theorem dX12_readCell_30 : decode cX12_readCell 30 = .ok (.getfield 13, 3) := by decide +kernel
theorem dX12_readCell_33 : decode cX12_readCell 33 = .ok (.iconst 0, 1) := by decide +kernel
theorem dX12_readCell_34 : decode cX12_readCell 34 = .ok (.iaload, 1) := by decide +kernel
theorem dX12_readCell_35 : decode cX12_readCell 35 = .ok (.imul, 1) := by decide +kernel
theorem dX12_readCell_36 : decode cX12_readCell 36 = .ok (.iadd, 1) := by decide +kernel
theorem dX12_readCell_37 : decode cX12_readCell 37 = .ok (.istore_n 1, 1) := by decide +kernel
theorem dX12_readCell_38 : decode cX12_readCell 38 = .ok (.aload_n 0, 1) := by decide +kernel
theorem dX12_readCell_39 : decode cX12_readCell 39 = .ok (.getfield 301, 3) := by decide +kernel
theorem dX12_readCell_42 : decode cX12_readCell 42 = .ok (.ifCond .eq 4, 3) := by decide +kernel
theorem dX12_readCell_45 : decode cX12_readCell 45 = .ok (.return_, 1) := by decide +kernel
theorem dX12_readCell_46 : decode cX12_readCell 46 = .ok (.aload_n 0, 1) := by decide +kernel
theorem dX12_readCell_47 : decode cX12_readCell 47 = .ok (.iload_n 1, 1) := by decide +kernel
theorem dX12_readCell_48 : decode cX12_readCell 48 = .ok (.iconst 0, 1) := by decide +kernel
theorem dX12_readCell_49 : decode cX12_readCell 49 = .ok (.iadd, 1) := by decide +kernel
theorem dX12_readCell_50 : decode cX12_readCell 50 = .ok (.iconst 0, 1) := by decide +kernel
theorem dX12_readCell_51 : decode cX12_readCell 51 = .ok (.sipush 999, 3) := by decide +kernel
theorem dX12_readCell_54 : decode cX12_readCell 54 = .ok (.invokevirtual 345, 3) := by decide +kernel
theorem dX12_readCell_57 : decode cX12_readCell 57 = .ok (.aload_n 0, 1) := by decide +kernel
theorem dX12_readCell_58 : decode cX12_readCell 58 = .ok (.iload_n 1, 1) := by decide +kernel
theorem dX12_readCell_59 : decode cX12_readCell 59 = .ok (.iconst 1, 1) := by decide +kernel
theorem dX12_readCell_60 : decode cX12_readCell 60 = .ok (.iadd, 1) := by decide +kernel
theorem dX12_readCell_61 : decode cX12_readCell 61 = .ok (.iconst 0, 1) := by decide +kernel
theorem dX12_readCell_62 : decode cX12_readCell 62 = .ok (.sipush 999, 3) := by decide +kernel
theorem dX12_readCell_65 : decode cX12_readCell 65 = .ok (.invokevirtual 345, 3) := by decide +kernel
theorem dX12_readCell_68 : decode cX12_readCell 68 = .ok (.aload_n 0, 1) := by decide +kernel
theorem dX12_readCell_69 : decode cX12_readCell 69 = .ok (.iload_n 1, 1) := by decide +kernel
theorem dX12_readCell_70 : decode cX12_readCell 70 = .ok (.iconst 2, 1) := by decide +kernel
theorem dX12_readCell_71 : decode cX12_readCell 71 = .ok (.iadd, 1) := by decide +kernel
theorem dX12_readCell_72 : decode cX12_readCell 72 = .ok (.iconst 1, 1) := by decide +kernel
theorem dX12_readCell_73 : decode cX12_readCell 73 = .ok (.bipush 99, 2) := by decide +kernel
theorem dX12_readCell_75 : decode cX12_readCell 75 = .ok (.invokevirtual 345, 3) := by decide +kernel
theorem dX12_readCell_78 : decode cX12_readCell 78 = .ok (.aload_n 0, 1) := by decide +kernel
theorem dX12_readCell_79 : decode cX12_readCell 79 = .ok (.iload_n 1, 1) := by decide +kernel
theorem dX12_readCell_80 : decode cX12_readCell 80 = .ok (.iconst 3, 1) := by decide +kernel
theorem dX12_readCell_81 : decode cX12_readCell 81 = .ok (.iadd, 1) := by decide +kernel
theorem dX12_readCell_82 : decode cX12_readCell 82 = .ok (.iconst 1, 1) := by decide +kernel
theorem dX12_readCell_83 : decode cX12_readCell 83 = .ok (.bipush 50, 2) := by decide +kernel
theorem dX12_readCell_85 : decode cX12_readCell 85 = .ok (.invokevirtual 345, 3) := by decide +kernel
theorem dX12_readCell_88 : decode cX12_readCell 88 = .ok (.aload_n 0, 1) := by decide +kernel
theorem dX12_readCell_89 : decode cX12_readCell 89 = .ok (.iload_n 1, 1) := by decide +kernel
theorem dX12_readCell_90 : decode cX12_readCell 90 = .ok (.iconst 4, 1) := by decide +kernel
theorem dX12_readCell_91 : decode cX12_readCell 91 = .ok (.iadd, 1) := by decide +kernel
theorem dX12_readCell_92 : decode cX12_readCell 92 = .ok (.iconst 1, 1) := by decide +kernel
theorem dX12_readCell_93 : decode cX12_readCell 93 = .ok (.bipush 8, 2) := by decide +kernel
theorem dX12_readCell_95 : decode cX12_readCell 95 = .ok (.invokevirtual 345, 3) := by decide +kernel
theorem dX12_readCell_98 : decode cX12_readCell 98 = .ok (.aload_n 0, 1) := by decide +kernel
theorem dX12_readCell_99 : decode cX12_readCell 99 = .ok (.iload_n 1, 1) := by decide +kernel
theorem dX12_readCell_100 : decode cX12_readCell 100 = .ok (.iconst 5, 1) := by decide +kernel
theorem dX12_readCell_101 : decode cX12_readCell 101 = .ok (.iadd, 1) := by decide +kernel
theorem dX12_readCell_102 : decode cX12_readCell 102 = .ok (.iconst 0, 1) := by decide +kernel
theorem dX12_readCell_103 : decode cX12_readCell 103 = .ok (.bipush 6, 2) := by decide +kernel
theorem dX12_readCell_105 : decode cX12_readCell 105 = .ok (.invokevirtual 345, 3) := by decide +kernel
theorem dX12_readCell_108 : decode cX12_readCell 108 = .ok (.aload_n 0, 1) := by decide +kernel
theorem dX12_readCell_109 : decode cX12_readCell 109 = .ok (.iload_n 1, 1) := by decide +kernel
theorem dX12_readCell_110 : decode cX12_readCell 110 = .ok (.bipush 6, 2) := by decide +kernel
theorem dX12_readCell_112 : decode cX12_readCell 112 = .ok (.iadd, 1) := by decide +kernel
theorem dX12_readCell_113 : decode cX12_readCell 113 = .ok (.iconst 0, 1) := by decide +kernel
theorem dX12_readCell_114 : decode cX12_readCell 114 = .ok (.bipush 99, 2) := by decide +kernel
theorem dX12_readCell_116 : decode cX12_readCell 116 = .ok (.invokevirtual 345, 3) := by decide +kernel
theorem dX12_readCell_119 : decode cX12_readCell 119 = .ok (.aload_n 0, 1) := by decide +kernel
theorem dX12_readCell_120 : decode cX12_readCell 120 = .ok (.iload_n 1, 1) := by decide +kernel
theorem dX12_readCell_121 : decode cX12_readCell 121 = .ok (.bipush 7, 2) := by decide +kernel
theorem dX12_readCell_123 : decode cX12_readCell 123 = .ok (.iadd, 1) := by decide +kernel
theorem dX12_readCell_124 : decode cX12_readCell 124 = .ok (.iconst 0, 1) := by decide +kernel
theorem dX12_readCell_125 : decode cX12_readCell 125 = .ok (.bipush 99, 2) := by decide +kernel
theorem dX12_readCell_127 : decode cX12_readCell 127 = .ok (.invokevirtual 345, 3) := by decide +kernel
theorem dX12_readCell_130 : decode cX12_readCell 130 = .ok (.aload_n 0, 1) := by decide +kernel
theorem dX12_readCell_131 : decode cX12_readCell 131 = .ok (.getfield 13, 3) := by decide +kernel
theorem dX12_readCell_134 : decode cX12_readCell 134 = .ok (.iconst 0, 1) := by decide +kernel
theorem dX12_readCell_135 : decode cX12_readCell 135 = .ok (.dup2, 1) := by decide +kernel
theorem dX12_readCell_136 : decode cX12_readCell 136 = .ok (.iaload, 1) := by decide +kernel
theorem dX12_readCell_137 : decode cX12_readCell 137 = .ok (.iconst 1, 1) := by decide +kernel
theorem dX12_readCell_138 : decode cX12_readCell 138 = .ok (.iadd, 1) := by decide +kernel
theorem dX12_readCell_139 : decode cX12_readCell 139 = .ok (.iastore, 1) := by decide +kernel
theorem dX12_readCell_140 : decode cX12_readCell 140 = .ok (.return_, 1) := by decide +kernel
theorem dX12_readRelation_0 : decode cX12_readRelation 0 = .ok (.aload_n 0, 1) := by decide +kernel
theorem dX12_readRelation_1 : decode cX12_readRelation 1 = .ok (.aload_n 0, 1) := by decide +kernel
theorem dX12_readRelation_2 : decode cX12_readRelation 2 = .ok (.getfield 13, 3) := by decide +kernel
theorem dX12_readRelation_5 : decode cX12_readRelation 5 = .ok (.iconst 1, 1) := by decide +kernel
theorem dX12_readRelation_6 : decode cX12_readRelation 6 = .ok (.iaload, 1) := by decide +kernel
theorem dX12_readRelation_7 : decode cX12_readRelation 7 = .ok (.bipush 24, 2) := by decide +kernel
theorem dX12_readRelation_9 : decode cX12_readRelation 9 = .ok (.if_icmp .ge 7, 3) := by decide +kernel
theorem dX12_readRelation_12 : decode cX12_readRelation 12 = .ok (.iconst 1, 1) := by decide +kernel
theorem dX12_readRelation_13 : decode cX12_readRelation 13 = .ok (.goto 4, 3) := by decide +kernel
theorem dX12_readRelation_16 : decode cX12_readRelation 16 = .ok (.iconst 0, 1) := by decide +kernel
theorem dX12_readRelation_17 : decode cX12_readRelation 17 = .ok (.iconst 3, 1) := by decide +kernel
theorem dX12_readRelation_18 : decode cX12_readRelation 18 = .ok (.invokevirtual 328, 3) := by decide +kernel
theorem dX12_readRelation_21 : decode cX12_readRelation 21 = .ok (.aload_n 0, 1) := by decide +kernel
theorem dX12_readRelation_22 : decode cX12_readRelation 22 = .ok (.invokevirtual 332, 3) := by decide +kernel
theorem dX12_readRelation_25 : decode cX12_readRelation 25 = .ok (.aload_n 0, 1) := by decide +kernel
theorem dX12_readRelation_26 : decode cX12_readRelation 26 = .ok (.getfield 301, 3) := by decide +kernel
theorem dX12_readRelation_29 : decode cX12_readRelation 29 = .ok (.ifCond .eq 4, 3) := by decide +kernel
theorem dX12_readRelation_32 : decode cX12_readRelation 32 = .ok (.return_, 1) := by decide +kernel
theorem dX12_readRelation_33 : decode cX12_readRelation 33 = .ok (.bipush 90, 2) := by decide +kernel
theorem dX12_readRelation_35 : decode cX12_readRelation 35 = .ok (.iconst 5, 1) := by decide +kernel
theorem dX12_readRelation_36 : decode cX12_readRelation 36 = .ok (.aload_n 0, 1) := by decide +kernel
theorem dX12_readRelation_37 : decode cX12_readRelation 37 = .ok (.getfield 13, 3) := by decide +kernel
theorem dX12_readRelation_40 : decode cX12_readRelation 40 = .ok (.iconst 1, 1) := by decide +kernel
theorem dX12_readRelation_41 : decode cX12_readRelation 41 = .ok (.iaload, 1) := by decide +kernel
theorem dX12_readRelation_42 : decode cX12_readRelation 42 = .ok (.imul, 1) := by decide +kernel
theorem dX12_readRelation_43 : decode cX12_readRelation 43 = .ok (.iadd, 1) := by decide +kernel
theorem dX12_readRelation_44 : decode cX12_readRelation 44 = .ok (.istore_n 1, 1) := by decide +kernel
theorem dX12_readRelation_45 : decode cX12_readRelation 45 = .ok (.aload_n 0, 1) := by decide +kernel
theorem dX12_readRelation_46 : decode cX12_readRelation 46 = .ok (.invokevirtual 348, 3) := by decide +kernel
theorem dX12_readRelation_49 : decode cX12_readRelation 49 = .ok (.istore_n 2, 1) := by decide +kernel
theorem dX12_readRelation_50 : decode cX12_readRelation 50 = .ok (.aload_n 0, 1) := by decide +kernel
theorem dX12_readRelation_51 : decode cX12_readRelation 51 = .ok (.aload_n 0, 1) := by decide +kernel
theorem dX12_readRelation_52 : decode cX12_readRelation 52 = .ok (.getfield 301, 3) := by decide +kernel
theorem dX12_readRelation_55 : decode cX12_readRelation 55 = .ok (.ifCond .ne 11, 3) := by decide +kernel
theorem dX12_readRelation_58 : decode cX12_readRelation 58 = .ok (.aload_n 0, 1) := by decide +kernel
theorem dX12_readRelation_59 : decode cX12_readRelation 59 = .ok (.getfield 292, 3) := by decide +kernel
theorem dX12_readRelation_62 : decode cX12_readRelation 62 = .ok (.iconst 2, 1) := by decide +kernel
theorem dX12_readRelation_63 : decode cX12_readRelation 63 = .ok (.if_icmp .ne 7, 3) := by decide +kernel
theorem dX12_readRelation_66 : decode cX12_readRelation 66 = .ok (.iconst 1, 1) := by decide +kernel
theorem dX12_readRelation_67 : decode cX12_readRelation 67 = .ok (.goto 4, 3) := by decide +kernel
theorem dX12_readRelation_70 : decode cX12_readRelation 70 = .ok (.iconst 0, 1) := by decide +kernel
theorem dX12_readRelation_71 : decode cX12_readRelation 71 = .ok (.iconst 1, 1) := by decide +kernel
theorem dX12_readRelation_72 : decode cX12_readRelation 72 = .ok (.invokevirtual 328, 3) := by decide +kernel
theorem dX12_readRelation_75 : decode cX12_readRelation 75 = .ok (.aload_n 0, 1) := by decide +kernel
theorem dX12_readRelation_76 : decode cX12_readRelation 76 = .ok (.getfield 301, 3) := by decide +kernel
theorem dX12_readRelation_79 : decode cX12_readRelation 79 = .ok (.ifCond .ne 10, 3) := by decide +kernel
theorem dX12_readRelation_82 : decode cX12_readRelation 82 = .ok (.aload_n 0, 1) := by decide +kernel
theorem dX12_readRelation_83 : decode cX12_readRelation 83 = .ok (.invokevirtual 339, 3) := by decide +kernel
theorem dX12_readRelation_86 : decode cX12_readRelation 86 = .ok (.goto 4, 3) := by decide +kernel
theorem dX12_readRelation_89 : decode cX12_readRelation 89 = .ok (.iconst (-1), 1) := by decide +kernel
theorem dX12_readRelation_90 : decode cX12_readRelation 90 = .ok (.istore_n 3, 1) := by decide +kernel
theorem dX12_readRelation_91 : decode cX12_readRelation 91 = .ok (.aload_n 0, 1) := by decide +kernel
theorem dX12_readRelation_92 : decode cX12_readRelation 92 = .ok (.aload_n 0, 1) := by decide +kernel
theorem dX12_readRelation_93 : decode cX12_readRelation 93 = .ok (.getfield 301, 3) := by decide +kernel
theorem dX12_readRelation_96 : decode cX12_readRelation 96 = .ok (.ifCond .ne 18, 3) := by decide +kernel
theorem dX12_readRelation_99 : decode cX12_readRelation 99 = .ok (.iload_n 3, 1) := by decide +kernel
theorem dX12_readRelation_100 : decode cX12_readRelation 100 = .ok (.aload_n 0, 1) := by decide +kernel
theorem dX12_readRelation_101 : decode cX12_readRelation 101 = .ok (.getfield 13, 3) := by decide +kernel
theorem dX12_readRelation_104 : decode cX12_readRelation 104 = .ok (.iconst 0, 1) := by decide +kernel
theorem dX12_readRelation_105 : decode cX12_readRelation 105 = .ok (.iaload, 1) := by decide +kernel
theorem dX12_readRelation_106 : decode cX12_readRelation 106 = .ok (.if_icmp .ge 12, 3) := by decide +kernel
theorem dX12_readRelation_109 : decode cX12_readRelation 109 = .ok (.iload_n 3, 1) := by decide +kernel
theorem dX12_readRelation_110 : decode cX12_readRelation 110 = .ok (.iload_n 2, 1) := by decide +kernel
theorem dX12_readRelation_111 : decode cX12_readRelation 111 = .ok (.if_icmp .eq 7, 3) := by decide +kernel
theorem dX12_readRelation_114 : decode cX12_readRelation 114 = .ok (.iconst 1, 1) := by decide +kernel
theorem dX12_readRelation_115 : decode cX12_readRelation 115 = .ok (.goto 4, 3) := by decide +kernel
theorem dX12_readRelation_118 : decode cX12_readRelation 118 = .ok (.iconst 0, 1) := by decide +kernel
theorem dX12_readRelation_119 : decode cX12_readRelation 119 = .ok (.iconst 2, 1) := by decide +kernel
theorem dX12_readRelation_120 : decode cX12_readRelation 120 = .ok (.invokevirtual 328, 3) := by decide +kernel
theorem dX12_readRelation_123 : decode cX12_readRelation 123 = .ok (.aload_n 0, 1) := by decide +kernel
theorem dX12_readRelation_124 : decode cX12_readRelation 124 = .ok (.aload_n 0, 1) := by decide +kernel
theorem dX12_readRelation_125 : decode cX12_readRelation 125 = .ok (.getfield 301, 3) := by decide +kernel
theorem dX12_readRelation_128 : decode cX12_readRelation 128 = .ok (.ifCond .ne 17, 3) := by decide +kernel
theorem dX12_readRelation_131 : decode cX12_readRelation 131 = .ok (.aload_n 0, 1) := by decide +kernel
theorem dX12_readRelation_132 : decode cX12_readRelation 132 = .ok (.aload_n 0, 1) := by decide +kernel
theorem dX12_readRelation_133 : decode cX12_readRelation 133 = .ok (.getfield 13, 3) := by decide +kernel
theorem dX12_readRelation_136 : decode cX12_readRelation 136 = .ok (.iload_n 2, 1) := by decide +kernel
theorem dX12_readRelation_137 : decode cX12_readRelation 137 = .ok (.iload_n 3, 1) := by decide +kernel
theorem dX12_readRelation_138 : decode cX12_readRelation 138 = .ok (.invokevirtual 81, 3) := by decide +kernel
theorem dX12_readRelation_141 : decode cX12_readRelation 141 = .ok (.iconst (-1), 1) := by decide +kernel
theorem dX12_readRelation_142 : decode cX12_readRelation 142 = .ok (.if_icmp .ne 7, 3) := by decide +kernel
theorem dX12_readRelation_145 : decode cX12_readRelation 145 = .ok (.iconst 1, 1) := by decide +kernel
theorem dX12_readRelation_146 : decode cX12_readRelation 146 = .ok (.goto 4, 3) := by decide +kernel
theorem dX12_readRelation_149 : decode cX12_readRelation 149 = .ok (.iconst 0, 1) := by decide +kernel
theorem dX12_readRelation_150 : decode cX12_readRelation 150 = .ok (.iconst 4, 1) := by decide +kernel
theorem dX12_readRelation_151 : decode cX12_readRelation 151 = .ok (.invokevirtual 328, 3) := by decide +kernel
theorem dX12_readRelation_154 : decode cX12_readRelation 154 = .ok (.aload_n 0, 1) := by decide +kernel
theorem dX12_readRelation_155 : decode cX12_readRelation 155 = .ok (.invokevirtual 332, 3) := by decide +kernel
theorem dX12_readRelation_158 : decode cX12_readRelation 158 = .ok (.aload_n 0, 1) := by decide +kernel
theorem dX12_readRelation_159 : decode cX12_readRelation 159 = .ok (.iload_n 1, 1) := by decide +kernel
theorem dX12_readRelation_160 : decode cX12_readRelation 160 = .ok (.iconst 2, 1) := by decide +kernel
theorem dX12_readRelation_161 : decode cX12_readRelation 161 = .ok (.iadd, 1) := by decide +kernel
theorem dX12_readRelation_162 : decode cX12_readRelation 162 = .ok (.iconst 0, 1) := by decide +kernel
theorem dX12_readRelation_163 : decode cX12_readRelation 163 = .ok (.bipush 30, 2) := by decide +kernel
theorem dX12_readRelation_165 : decode cX12_readRelation 165 = .ok (.invokevirtual 345, 3) := by decide +kernel
theorem dX12_readRelation_168 : decode cX12_readRelation 168 = .ok (.aload_n 0, 1) := by decide +kernel
theorem dX12_readRelation_169 : decode cX12_readRelation 169 = .ok (.getfield 301, 3) := by decide +kernel
theorem dX12_readRelation_172 : decode cX12_readRelation 172 = .ok (.ifCond .ne 31, 3) := by decide +kernel
theorem dX12_readRelation_175 : decode cX12_readRelation 175 = .ok (.aload_n 0, 1) := by decide +kernel
theorem dX12_readRelation_176 : decode cX12_readRelation 176 = .ok (.getfield 13, 3) := by decide +kernel
theorem dX12_readRelation_179 : decode cX12_readRelation 179 = .ok (.iload_n 1, 1) := by decide +kernel
theorem dX12_readRelation_180 : decode cX12_readRelation 180 = .ok (.iconst 0, 1) := by decide +kernel
theorem dX12_readRelation_181 : decode cX12_readRelation 181 = .ok (.iadd, 1) := by decide +kernel
theorem dX12_readRelation_182 : decode cX12_readRelation 182 = .ok (.iload_n 2, 1) := by decide +kernel
theorem dX12_readRelation_183 : decode cX12_readRelation 183 = .ok (.iastore, 1) := by decide +kernel
theorem dX12_readRelation_184 : decode cX12_readRelation 184 = .ok (.aload_n 0, 1) := by decide +kernel
theorem dX12_readRelation_185 : decode cX12_readRelation 185 = .ok (.getfield 13, 3) := by decide +kernel
theorem dX12_readRelation_188 : decode cX12_readRelation 188 = .ok (.iload_n 1, 1) := by decide +kernel
theorem dX12_readRelation_189 : decode cX12_readRelation 189 = .ok (.iconst 1, 1) := by decide +kernel
theorem dX12_readRelation_190 : decode cX12_readRelation 190 = .ok (.iadd, 1) := by decide +kernel
theorem dX12_readRelation_191 : decode cX12_readRelation 191 = .ok (.iload_n 3, 1) := by decide +kernel
theorem dX12_readRelation_192 : decode cX12_readRelation 192 = .ok (.iastore, 1) := by decide +kernel
theorem dX12_readRelation_193 : decode cX12_readRelation 193 = .ok (.aload_n 0, 1) := by decide +kernel
theorem dX12_readRelation_194 : decode cX12_readRelation 194 = .ok (.getfield 13, 3) := by decide +kernel
theorem dX12_readRelation_197 : decode cX12_readRelation 197 = .ok (.iconst 1, 1) := by decide +kernel
theorem dX12_readRelation_198 : decode cX12_readRelation 198 = .ok (.dup2, 1) := by decide +kernel
theorem dX12_readRelation_199 : decode cX12_readRelation 199 = .ok (.iaload, 1) := by decide +kernel
theorem dX12_readRelation_200 : decode cX12_readRelation 200 = .ok (.iconst 1, 1) := by decide +kernel
theorem dX12_readRelation_201 : decode cX12_readRelation 201 = .ok (.iadd, 1) := by decide +kernel
theorem dX12_readRelation_202 : decode cX12_readRelation 202 = .ok (.iastore, 1) := by decide +kernel
theorem dX12_readRelation_203 : decode cX12_readRelation 203 = .ok (.return_, 1) := by decide +kernel
theorem dX12_readSettings_0 : decode cX12_readSettings 0 = .ok (.aload_n 0, 1) := by decide +kernel
theorem dX12_readSettings_1 : decode cX12_readSettings 1 = .ok (.ldc_w 351, 3) := by decide +kernel
theorem dX12_readSettings_4 : decode cX12_readSettings 4 = .ok (.invokevirtual 353, 3) := by decide +kernel
theorem dX12_readSettings_7 : decode cX12_readSettings 7 = .ok (.aload_n 0, 1) := by decide +kernel
theorem dX12_readSettings_8 : decode cX12_readSettings 8 = .ok (.iconst 4, 1) := by decide +kernel
theorem dX12_readSettings_9 : decode cX12_readSettings 9 = .ok (.iconst 1, 1) := by decide +kernel
theorem dX12_readSettings_10 : decode cX12_readSettings 10 = .ok (.bipush 8, 2) := by decide +kernel
theorem dX12_readSettings_12 : decode cX12_readSettings 12 = .ok (.invokevirtual 345, 3) := by decide +kernel
theorem dX12_readSettings_15 : decode cX12_readSettings 15 = .ok (.aload_n 0, 1) := by decide +kernel
theorem dX12_readSettings_16 : decode cX12_readSettings 16 = .ok (.iconst 5, 1) := by decide +kernel
theorem dX12_readSettings_17 : decode cX12_readSettings 17 = .ok (.iconst 1, 1) := by decide +kernel
theorem dX12_readSettings_18 : decode cX12_readSettings 18 = .ok (.aload_n 0, 1) := by decide +kernel
theorem dX12_readSettings_19 : decode cX12_readSettings 19 = .ok (.getfield 13, 3) := by decide +kernel
theorem dX12_readSettings_22 : decode cX12_readSettings 22 = .ok (.iconst 4, 1) := by decide +kernel
theorem dX12_readSettings_23 : decode cX12_readSettings 23 = .ok (.iaload, 1) := by decide +kernel
theorem dX12_readSettings_24 : decode cX12_readSettings 24 = .ok (.invokevirtual 345, 3) := by decide +kernel
theorem dX12_readSettings_27 : decode cX12_readSettings 27 = .ok (.aload_n 0, 1) := by decide +kernel
theorem dX12_readSettings_28 : decode cX12_readSettings 28 = .ok (.bipush 6, 2) := by decide +kernel
theorem dX12_readSettings_30 : decode cX12_readSettings 30 = .ok (.iconst 0, 1) := by decide +kernel
theorem dX12_readSettings_31 : decode cX12_readSettings 31 = .ok (.bipush 50, 2) := by decide +kernel
theorem dX12_readSettings_33 : decode cX12_readSettings 33 = .ok (.invokevirtual 345, 3) := by decide +kernel
theorem dX12_readSettings_36 : decode cX12_readSettings 36 = .ok (.aload_n 0, 1) := by decide +kernel
theorem dX12_readSettings_37 : decode cX12_readSettings 37 = .ok (.bipush 7, 2) := by decide +kernel
theorem dX12_readSettings_39 : decode cX12_readSettings 39 = .ok (.iconst 1, 1) := by decide +kernel
theorem dX12_readSettings_40 : decode cX12_readSettings 40 = .ok (.bipush 30, 2) := by decide +kernel
theorem dX12_readSettings_42 : decode cX12_readSettings 42 = .ok (.invokevirtual 345, 3) := by decide +kernel
theorem dX12_readSettings_45 : decode cX12_readSettings 45 = .ok (.aload_n 0, 1) := by decide +kernel
theorem dX12_readSettings_46 : decode cX12_readSettings 46 = .ok (.bipush 8, 2) := by decide +kernel
theorem dX12_readSettings_48 : decode cX12_readSettings 48 = .ok (.iconst 0, 1) := by decide +kernel
theorem dX12_readSettings_49 : decode cX12_readSettings 49 = .ok (.bipush 99, 2) := by decide +kernel
theorem dX12_readSettings_51 : decode cX12_readSettings 51 = .ok (.invokevirtual 345, 3) := by decide +kernel
theorem dX12_readSettings_54 : decode cX12_readSettings 54 = .ok (.aload_n 0, 1) := by decide +kernel
theorem dX12_readSettings_55 : decode cX12_readSettings 55 = .ok (.bipush 9, 2) := by decide +kernel
theorem dX12_readSettings_57 : decode cX12_readSettings 57 = .ok (.iconst 1, 1) := by decide +kernel
theorem dX12_readSettings_58 : decode cX12_readSettings 58 = .ok (.bipush 20, 2) := by decide +kernel
theorem dX12_readSettings_60 : decode cX12_readSettings 60 = .ok (.invokevirtual 345, 3) := by decide +kernel
theorem dX12_readSettings_63 : decode cX12_readSettings 63 = .ok (.return_, 1) := by decide +kernel
theorem dX12_load_0 : decode cX12_load 0 = .ok (.aload_n 0, 1) := by decide +kernel
theorem dX12_load_1 : decode cX12_load 1 = .ok (.iconst 0, 1) := by decide +kernel
theorem dX12_load_2 : decode cX12_load 2 = .ok (.putfield 70, 3) := by decide +kernel
theorem dX12_load_5 : decode cX12_load 5 = .ok (.iload_n 1, 1) := by decide +kernel
theorem dX12_load_6 : decode cX12_load 6 = .ok (.iconst 0, 1) := by decide +kernel
theorem dX12_load_7 : decode cX12_load 7 = .ok (.aload_n 0, 1) := by decide +kernel
theorem dX12_load_8 : decode cX12_load 8 = .ok (.getfield 277, 3) := by decide +kernel
theorem dX12_load_11 : decode cX12_load 11 = .ok (.invokestatic 73, 3) := by decide +kernel
theorem dX12_load_14 : decode cX12_load 14 = .ok (.ifCond .ne 9, 3) := by decide +kernel
theorem dX12_load_17 : decode cX12_load 17 = .ok (.aload_n 0, 1) := by decide +kernel
theorem dX12_load_18 : decode cX12_load 18 = .ok (.iconst 1, 1) := by decide +kernel
theorem dX12_load_19 : decode cX12_load 19 = .ok (.invokevirtual 108, 3) := by decide +kernel
theorem dX12_load_22 : decode cX12_load 22 = .ok (.ireturn, 1) := by decide +kernel
theorem dX12_load_23 : decode cX12_load 23 = .ok (.aload_n 0, 1) := by decide +kernel
theorem dX12_load_24 : decode cX12_load 24 = .ok (.getfield 13, 3) := by decide +kernel
theorem dX12_load_27 : decode cX12_load 27 = .ok (.invokestatic 66, 3) := by decide +kernel
theorem dX12_load_30 : decode cX12_load 30 = .ok (.aload_n 0, 1) := by decide +kernel
theorem dX12_load_31 : decode cX12_load 31 = .ok (.iload_n 1, 1) := by decide +kernel
theorem dX12_load_32 : decode cX12_load 32 = .ok (.invokevirtual 357, 3) := by decide +kernel
theorem dX12_load_35 : decode cX12_load 35 = .ok (.aload_n 0, 1) := by decide +kernel
theorem dX12_load_36 : decode cX12_load 36 = .ok (.getfield 301, 3) := by decide +kernel
theorem dX12_load_39 : decode cX12_load 39 = .ok (.ifCond .ne 56, 3) := by decide +kernel
theorem dX12_load_42 : decode cX12_load 42 = .ok (.aload_n 0, 1) := by decide +kernel
theorem dX12_load_43 : decode cX12_load 43 = .ok (.getfield 292, 3) := by decide +kernel
theorem dX12_load_46 : decode cX12_load 46 = .ok (.ifCond .eq 49, 3) := by decide +kernel
theorem dX12_load_49 : decode cX12_load 49 = .ok (.aload_n 0, 1) := by decide +kernel
theorem dX12_load_50 : decode cX12_load 50 = .ok (.ldc 48, 2) := by decide +kernel
theorem dX12_load_52 : decode cX12_load 52 = .ok (.invokevirtual 324, 3) := by decide +kernel
theorem dX12_load_55 : decode cX12_load 55 = .ok (.ifCond .eq 10, 3) := by decide +kernel
theorem dX12_load_58 : decode cX12_load 58 = .ok (.aload_n 0, 1) := by decide +kernel
theorem dX12_load_59 : decode cX12_load 59 = .ok (.invokevirtual 360, 3) := by decide +kernel
theorem dX12_load_62 : decode cX12_load 62 = .ok (.goto 24, 3) := by decide +kernel
theorem dX12_load_65 : decode cX12_load 65 = .ok (.aload_n 0, 1) := by decide +kernel
theorem dX12_load_66 : decode cX12_load 66 = .ok (.ldc_w 363, 3) := by decide +kernel
theorem dX12_load_69 : decode cX12_load 69 = .ok (.invokevirtual 324, 3) := by decide +kernel
theorem dX12_load_72 : decode cX12_load 72 = .ok (.ifCond .eq 10, 3) := by decide +kernel
theorem dX12_load_75 : decode cX12_load 75 = .ok (.aload_n 0, 1) := by decide +kernel
theorem dX12_load_76 : decode cX12_load 76 = .ok (.invokevirtual 365, 3) := by decide +kernel
theorem dX12_load_79 : decode cX12_load 79 = .ok (.goto 7, 3) := by decide +kernel
theorem dX12_load_82 : decode cX12_load 82 = .ok (.aload_n 0, 1) := by decide +kernel
theorem dX12_load_83 : decode cX12_load 83 = .ok (.invokevirtual 368, 3) := by decide +kernel
theorem dX12_load_86 : decode cX12_load 86 = .ok (.aload_n 0, 1) := by decide +kernel
theorem dX12_load_87 : decode cX12_load 87 = .ok (.bipush 59, 2) := by decide +kernel
theorem dX12_load_89 : decode cX12_load 89 = .ok (.invokevirtual 371, 3) := by decide +kernel
theorem dX12_load_92 : decode cX12_load 92 = .ok (.goto (-57), 3) := by decide +kernel
theorem dX12_load_95 : decode cX12_load 95 = .ok (.aload_n 0, 1) := by decide +kernel
theorem dX12_load_96 : decode cX12_load 96 = .ok (.invokevirtual 374, 3) := by decide +kernel
theorem dX12_load_99 : decode cX12_load 99 = .ok (.ifCond .eq 11, 3) := by decide +kernel
theorem dX12_load_102 : decode cX12_load 102 = .ok (.bipush (-10), 2) := by decide +kernel
theorem dX12_load_104 : decode cX12_load 104 = .ok (.aload_n 0, 1) := by decide +kernel
theorem dX12_load_105 : decode cX12_load 105 = .ok (.getfield 301, 3) := by decide +kernel
theorem dX12_load_108 : decode cX12_load 108 = .ok (.isub, 1) := by decide +kernel
theorem dX12_load_109 : decode cX12_load 109 = .ok (.ireturn, 1) := by decide +kernel
theorem dX12_load_110 : decode cX12_load 110 = .ok (.aload_n 0, 1) := by decide +kernel
theorem dX12_load_111 : decode cX12_load 111 = .ok (.getfield 13, 3) := by decide +kernel
theorem dX12_load_114 : decode cX12_load 114 = .ok (.iconst 0, 1) := by decide +kernel
theorem dX12_load_115 : decode cX12_load 115 = .ok (.aload_n 0, 1) := by decide +kernel
theorem dX12_load_116 : decode cX12_load 116 = .ok (.getfield 9, 3) := by decide +kernel
theorem dX12_load_119 : decode cX12_load 119 = .ok (.iconst 0, 1) := by decide +kernel
theorem dX12_load_120 : decode cX12_load 120 = .ok (.invokestatic 266, 3) := by decide +kernel
theorem dX12_load_123 : decode cX12_load 123 = .ok (.aload_n 0, 1) := by decide +kernel
theorem dX12_load_124 : decode cX12_load 124 = .ok (.iconst 0, 1) := by decide +kernel
theorem dX12_load_125 : decode cX12_load 125 = .ok (.putfield 270, 3) := by decide +kernel
theorem dX12_load_128 : decode cX12_load 128 = .ok (.aload_n 0, 1) := by decide +kernel
theorem dX12_load_129 : decode cX12_load 129 = .ok (.getfield 9, 3) := by decide +kernel
theorem dX12_load_132 : decode cX12_load 132 = .ok (.iconst 0, 1) := by decide +kernel
theorem dX12_load_133 : decode cX12_load 133 = .ok (.iaload, 1) := by decide +kernel
theorem dX12_load_134 : decode cX12_load 134 = .ok (.ireturn, 1) := by decide +kernel
theorem dX12_emit_0 : decode cX12_emit 0 = .ok (.aload_n 0, 1) := by decide +kernel
theorem dX12_emit_1 : decode cX12_emit 1 = .ok (.getfield 301, 3) := by decide +kernel
theorem dX12_emit_4 : decode cX12_emit 4 = .ok (.ifCond .ne 23, 3) := by decide +kernel
theorem dX12_emit_7 : decode cX12_emit 7 = .ok (.aload_n 0, 1) := by decide +kernel
theorem dX12_emit_8 : decode cX12_emit 8 = .ok (.getfield 60, 3) := by decide +kernel
theorem dX12_emit_11 : decode cX12_emit 11 = .ok (.aload_n 0, 1) := by decide +kernel
theorem dX12_emit_12 : decode cX12_emit 12 = .ok (.getfield 376, 3) := by decide +kernel
theorem dX12_emit_15 : decode cX12_emit 15 = .ok (.iload_n 1, 1) := by decide +kernel
theorem dX12_emit_16 : decode cX12_emit 16 = .ok (.iastore, 1) := by decide +kernel
theorem dX12_emit_17 : decode cX12_emit 17 = .ok (.aload_n 0, 1) := by decide +kernel
theorem dX12_emit_18 : decode cX12_emit 18 = .ok (.dup, 1) := by decide +kernel
theorem dX12_emit_19 : decode cX12_emit 19 = .ok (.getfield 376, 3) := by decide +kernel
theorem dX12_emit_22 : decode cX12_emit 22 = .ok (.iconst 1, 1) := by decide +kernel
theorem dX12_emit_23 : decode cX12_emit 23 = .ok (.iadd, 1) := by decide +kernel
theorem dX12_emit_24 : decode cX12_emit 24 = .ok (.putfield 376, 3) := by decide +kernel
theorem dX12_emit_27 : decode cX12_emit 27 = .ok (.return_, 1) := by decide +kernel
theorem dX12_enter_0 : decode cX12_enter 0 = .ok (.aload_n 0, 1) := by decide +kernel
theorem dX12_enter_1 : decode cX12_enter 1 = .ok (.aload_n 0, 1) := by decide +kernel
theorem dX12_enter_2 : decode cX12_enter 2 = .ok (.getfield 304, 3) := by decide +kernel
theorem dX12_enter_5 : decode cX12_enter 5 = .ok (.bipush 6, 2) := by decide +kernel
theorem dX12_enter_7 : decode cX12_enter 7 = .ok (.if_icmp .ge 7, 3) := by decide +kernel
theorem dX12_enter_10 : decode cX12_enter 10 = .ok (.iconst 1, 1) := by decide +kernel
theorem dX12_enter_11 : decode cX12_enter 11 = .ok (.goto 4, 3) := by decide +kernel
theorem dX12_enter_14 : decode cX12_enter 14 = .ok (.iconst 0, 1) := by decide +kernel
theorem dX12_enter_15 : decode cX12_enter 15 = .ok (.iconst 3, 1) := by decide +kernel
theorem dX12_enter_16 : decode cX12_enter 16 = .ok (.invokevirtual 328, 3) := by decide +kernel
theorem dX12_enter_19 : decode cX12_enter 19 = .ok (.aload_n 0, 1) := by decide +kernel
theorem dX12_enter_20 : decode cX12_enter 20 = .ok (.dup, 1) := by decide +kernel
theorem dX12_enter_21 : decode cX12_enter 21 = .ok (.getfield 304, 3) := by decide +kernel
theorem dX12_enter_24 : decode cX12_enter 24 = .ok (.iconst 1, 1) := by decide +kernel
theorem dX12_enter_25 : decode cX12_enter 25 = .ok (.iadd, 1) := by decide +kernel
theorem dX12_enter_26 : decode cX12_enter 26 = .ok (.putfield 304, 3) := by decide +kernel
theorem dX12_enter_29 : decode cX12_enter 29 = .ok (.aload_n 0, 1) := by decide +kernel
theorem dX12_enter_30 : decode cX12_enter 30 = .ok (.invokevirtual 332, 3) := by decide +kernel
theorem dX12_enter_33 : decode cX12_enter 33 = .ok (.return_, 1) := by decide +kernel
theorem dX12_compileValue_0 : decode cX12_compileValue 0 = .ok (.aload_n 0, 1) := by decide +kernel
theorem dX12_compileValue_1 : decode cX12_compileValue 1 = .ok (.getfield 301, 3) := by decide +kernel
theorem dX12_compileValue_4 : decode cX12_compileValue 4 = .ok (.ifCond .ne 11, 3) := by decide +kernel
theorem dX12_compileValue_7 : decode cX12_compileValue 7 = .ok (.aload_n 0, 1) := by decide +kernel
theorem dX12_compileValue_8 : decode cX12_compileValue 8 = .ok (.getfield 292, 3) := by decide +kernel
theorem dX12_compileValue_11 : decode cX12_compileValue 11 = .ok (.iconst 2, 1) := by decide +kernel
theorem dX12_compileValue_12 : decode cX12_compileValue 12 = .ok (.if_icmp .ne 16, 3) := by decide +kernel
theorem dX12_compileValue_15 : decode cX12_compileValue 15 = .ok (.aload_n 0, 1) := by decide +kernel
theorem dX12_compileValue_16 : decode cX12_compileValue 16 = .ok (.aload_n 0, 1) := by decide +kernel
theorem dX12_compileValue_17 : decode cX12_compileValue 17 = .ok (.iconst 0, 1) := by decide +kernel
theorem dX12_compileValue_18 : decode cX12_compileValue 18 = .ok (.sipush 9999, 3) := by decide +kernel
theorem dX12_compileValue_21 : decode cX12_compileValue 21 = .ok (.invokevirtual 342, 3) := by decide +kernel
theorem dX12_compileValue_24 : decode cX12_compileValue 24 = .ok (.invokevirtual 379, 3) := by decide +kernel
theorem dX12_compileValue_27 : decode cX12_compileValue 27 = .ok (.return_, 1) := by decide +kernel
theorem dX12_compileValue_28 : decode cX12_compileValue 28 = .ok (.iconst 0, 1) := by decide +kernel
theorem dX12_compileValue_29 : decode cX12_compileValue 29 = .ok (.istore_n 1, 1) := by decide +kernel
theorem dX12_compileValue_30 : decode cX12_compileValue 30 = .ok (.iload_n 1, 1) := by decide +kernel
theorem dX12_compileValue_31 : decode cX12_compileValue 31 = .ok (.aload_n 0, 1) := by decide +kernel
theorem dX12_compileValue_32 : decode cX12_compileValue 32 = .ok (.getfield 56, 3) := by decide +kernel
theorem dX12_compileValue_35 : decode cX12_compileValue 35 = .ok (.arraylength, 1) := by decide +kernel
theorem dX12_compileValue_36 : decode cX12_compileValue 36 = .ok (.if_icmp .ge 22, 3) := by decide +kernel
theorem dX12_compileValue_39 : decode cX12_compileValue 39 = .ok (.aload_n 0, 1) := by decide +kernel
theorem dX12_compileValue_40 : decode cX12_compileValue 40 = .ok (.aload_n 0, 1) := by decide +kernel
theorem dX12_compileValue_41 : decode cX12_compileValue 41 = .ok (.getfield 56, 3) := by decide +kernel
theorem dX12_compileValue_44 : decode cX12_compileValue 44 = .ok (.iload_n 1, 1) := by decide +kernel
theorem dX12_compileValue_45 : decode cX12_compileValue 45 = .ok (.aaload, 1) := by decide +kernel
theorem dX12_compileValue_46 : decode cX12_compileValue 46 = .ok (.invokevirtual 324, 3) := by decide +kernel
theorem dX12_compileValue_49 : decode cX12_compileValue 49 = .ok (.ifCond .ne 9, 3) := by decide +kernel
theorem dX12_compileValue_52 : decode cX12_compileValue 52 = .ok (.iinc 1 1, 3) := by decide +kernel
theorem dX12_compileValue_55 : decode cX12_compileValue 55 = .ok (.goto (-25), 3) := by decide +kernel
theorem dX12_compileValue_58 : decode cX12_compileValue 58 = .ok (.aload_n 0, 1) := by decide +kernel
theorem dX12_compileValue_59 : decode cX12_compileValue 59 = .ok (.iload_n 1, 1) := by decide +kernel
theorem dX12_compileValue_60 : decode cX12_compileValue 60 = .ok (.aload_n 0, 1) := by decide +kernel
theorem dX12_compileValue_61 : decode cX12_compileValue 61 = .ok (.getfield 56, 3) := by decide +kernel
theorem dX12_compileValue_64 : decode cX12_compileValue 64 = .ok (.arraylength, 1) := by decide +kernel
theorem dX12_compileValue_65 : decode cX12_compileValue 65 = .ok (.if_icmp .ge 7, 3) := by decide +kernel
theorem dX12_compileValue_68 : decode cX12_compileValue 68 = .ok (.iconst 1, 1) := by decide +kernel
theorem dX12_compileValue_69 : decode cX12_compileValue 69 = .ok (.goto 4, 3) := by decide +kernel
theorem dX12_compileValue_72 : decode cX12_compileValue 72 = .ok (.iconst 0, 1) := by decide +kernel
theorem dX12_compileValue_73 : decode cX12_compileValue 73 = .ok (.iconst 1, 1) := by decide +kernel
theorem dX12_compileValue_74 : decode cX12_compileValue 74 = .ok (.invokevirtual 328, 3) := by decide +kernel
theorem dX12_compileValue_77 : decode cX12_compileValue 77 = .ok (.aload_n 0, 1) := by decide +kernel
theorem dX12_compileValue_78 : decode cX12_compileValue 78 = .ok (.iconst (-1), 1) := by decide +kernel
theorem dX12_compileValue_79 : decode cX12_compileValue 79 = .ok (.iload_n 1, 1) := by decide +kernel
theorem dX12_compileValue_80 : decode cX12_compileValue 80 = .ok (.isub, 1) := by decide +kernel
theorem dX12_compileValue_81 : decode cX12_compileValue 81 = .ok (.invokevirtual 379, 3) := by decide +kernel
theorem dX12_compileValue_84 : decode cX12_compileValue 84 = .ok (.aload_n 0, 1) := by decide +kernel
theorem dX12_compileValue_85 : decode cX12_compileValue 85 = .ok (.invokevirtual 332, 3) := by decide +kernel
theorem dX12_compileValue_88 : decode cX12_compileValue 88 = .ok (.return_, 1) := by decide +kernel
theorem dX12_compileFactor_0 : decode cX12_compileFactor 0 = .ok (.aload_n 0, 1) := by decide +kernel
theorem dX12_compileFactor_1 : decode cX12_compileFactor 1 = .ok (.ldc_w 382, 3) := by decide +kernel
theorem dX12_compileFactor_4 : decode cX12_compileFactor 4 = .ok (.invokevirtual 324, 3) := by decide +kernel
theorem dX12_compileFactor_7 : decode cX12_compileFactor 7 = .ok (.ifCond .eq 37, 3) := by decide +kernel
theorem dX12_compileFactor_10 : decode cX12_compileFactor 10 = .ok (.aload_n 0, 1) := by decide +kernel
theorem dX12_compileFactor_11 : decode cX12_compileFactor 11 = .ok (.invokevirtual 384, 3) := by decide +kernel
theorem dX12_compileFactor_14 : decode cX12_compileFactor 14 = .ok (.aload_n 0, 1) := by decide +kernel
theorem dX12_compileFactor_15 : decode cX12_compileFactor 15 = .ok (.getfield 301, 3) := by decide +kernel
theorem dX12_compileFactor_18 : decode cX12_compileFactor 18 = .ok (.ifCond .ne 7, 3) := by decide +kernel
theorem dX12_compileFactor_21 : decode cX12_compileFactor 21 = .ok (.aload_n 0, 1) := by decide +kernel
theorem dX12_compileFactor_22 : decode cX12_compileFactor 22 = .ok (.invokevirtual 387, 3) := by decide +kernel
theorem dX12_compileFactor_25 : decode cX12_compileFactor 25 = .ok (.aload_n 0, 1) := by decide +kernel
theorem dX12_compileFactor_26 : decode cX12_compileFactor 26 = .ok (.bipush (-23), 2) := by decide +kernel
theorem dX12_compileFactor_28 : decode cX12_compileFactor 28 = .ok (.invokevirtual 379, 3) := by decide +kernel
theorem dX12_compileFactor_31 : decode cX12_compileFactor 31 = .ok (.aload_n 0, 1) := by decide +kernel
theorem dX12_compileFactor_32 : decode cX12_compileFactor 32 = .ok (.dup, 1) := by decide +kernel
theorem dX12_compileFactor_33 : decode cX12_compileFactor 33 = .ok (.getfield 304, 3) := by decide +kernel
theorem dX12_compileFactor_36 : decode cX12_compileFactor 36 = .ok (.iconst 1, 1) := by decide +kernel
theorem dX12_compileFactor_37 : decode cX12_compileFactor 37 = .ok (.isub, 1) := by decide +kernel
theorem dX12_compileFactor_38 : decode cX12_compileFactor 38 = .ok (.putfield 304, 3) := by decide +kernel
theorem dX12_compileFactor_41 : decode cX12_compileFactor 41 = .ok (.goto 119, 3) := by decide +kernel
theorem dX12_compileFactor_44 : decode cX12_compileFactor 44 = .ok (.aload_n 0, 1) := by decide +kernel
theorem dX12_compileFactor_45 : decode cX12_compileFactor 45 = .ok (.bipush 40, 2) := by decide +kernel
theorem dX12_compileFactor_47 : decode cX12_compileFactor 47 = .ok (.invokevirtual 335, 3) := by decide +kernel
theorem dX12_compileFactor_50 : decode cX12_compileFactor 50 = .ok (.ifCond .eq 37, 3) := by decide +kernel
theorem dX12_compileFactor_53 : decode cX12_compileFactor 53 = .ok (.aload_n 0, 1) := by decide +kernel
theorem dX12_compileFactor_54 : decode cX12_compileFactor 54 = .ok (.invokevirtual 384, 3) := by decide +kernel
theorem dX12_compileFactor_57 : decode cX12_compileFactor 57 = .ok (.aload_n 0, 1) := by decide +kernel
theorem dX12_compileFactor_58 : decode cX12_compileFactor 58 = .ok (.getfield 301, 3) := by decide +kernel
theorem dX12_compileFactor_61 : decode cX12_compileFactor 61 = .ok (.ifCond .ne 7, 3) := by decide +kernel
theorem dX12_compileFactor_64 : decode cX12_compileFactor 64 = .ok (.aload_n 0, 1) := by decide +kernel
theorem dX12_compileFactor_65 : decode cX12_compileFactor 65 = .ok (.invokevirtual 390, 3) := by decide +kernel
theorem dX12_compileFactor_68 : decode cX12_compileFactor 68 = .ok (.aload_n 0, 1) := by decide +kernel
theorem dX12_compileFactor_69 : decode cX12_compileFactor 69 = .ok (.bipush 41, 2) := by decide +kernel
theorem dX12_compileFactor_71 : decode cX12_compileFactor 71 = .ok (.invokevirtual 371, 3) := by decide +kernel
theorem dX12_compileFactor_74 : decode cX12_compileFactor 74 = .ok (.aload_n 0, 1) := by decide +kernel
theorem dX12_compileFactor_75 : decode cX12_compileFactor 75 = .ok (.dup, 1) := by decide +kernel
theorem dX12_compileFactor_76 : decode cX12_compileFactor 76 = .ok (.getfield 304, 3) := by decide +kernel
theorem dX12_compileFactor_79 : decode cX12_compileFactor 79 = .ok (.iconst 1, 1) := by decide +kernel
theorem dX12_compileFactor_80 : decode cX12_compileFactor 80 = .ok (.isub, 1) := by decide +kernel
theorem dX12_compileFactor_81 : decode cX12_compileFactor 81 = .ok (.putfield 304, 3) := by decide +kernel
theorem dX12_compileFactor_84 : decode cX12_compileFactor 84 = .ok (.goto 76, 3) := by decide +kernel
theorem dX12_compileFactor_87 : decode cX12_compileFactor 87 = .ok (.aload_n 0, 1) := by decide +kernel
theorem dX12_compileFactor_88 : decode cX12_compileFactor 88 = .ok (.invokevirtual 393, 3) := by decide +kernel
theorem dX12_compileFactor_91 : decode cX12_compileFactor 91 = .ok (.aload_n 0, 1) := by decide +kernel
theorem dX12_compileFactor_92 : decode cX12_compileFactor 92 = .ok (.bipush 60, 2) := by decide +kernel
theorem dX12_compileFactor_94 : decode cX12_compileFactor 94 = .ok (.invokevirtual 335, 3) := by decide +kernel
theorem dX12_compileFactor_97 : decode cX12_compileFactor 97 = .ok (.ifCond .eq 8, 3) := by decide +kernel
theorem dX12_compileFactor_100 : decode cX12_compileFactor 100 = .ok (.bipush (-20), 2) := by decide +kernel
theorem dX12_compileFactor_102 : decode cX12_compileFactor 102 = .ok (.goto 19, 3) := by decide +kernel
theorem dX12_compileFactor_105 : decode cX12_compileFactor 105 = .ok (.aload_n 0, 1) := by decide +kernel
theorem dX12_compileFactor_106 : decode cX12_compileFactor 106 = .ok (.bipush 61, 2) := by decide +kernel
theorem dX12_compileFactor_108 : decode cX12_compileFactor 108 = .ok (.invokevirtual 335, 3) := by decide +kernel
theorem dX12_compileFactor_111 : decode cX12_compileFactor 111 = .ok (.ifCond .eq 8, 3) := by decide +kernel
theorem dX12_compileFactor_114 : decode cX12_compileFactor 114 = .ok (.bipush (-21), 2) := by decide +kernel
theorem dX12_compileFactor_116 : decode cX12_compileFactor 116 = .ok (.goto 5, 3) := by decide +kernel
theorem dX12_compileFactor_119 : decode cX12_compileFactor 119 = .ok (.bipush (-22), 2) := by decide +kernel
theorem dX12_compileFactor_121 : decode cX12_compileFactor 121 = .ok (.istore_n 1, 1) := by decide +kernel
theorem dX12_compileFactor_122 : decode cX12_compileFactor 122 = .ok (.aload_n 0, 1) := by decide +kernel
theorem dX12_compileFactor_123 : decode cX12_compileFactor 123 = .ok (.iload_n 1, 1) := by decide +kernel
theorem dX12_compileFactor_124 : decode cX12_compileFactor 124 = .ok (.bipush (-22), 2) := by decide +kernel
theorem dX12_compileFactor_126 : decode cX12_compileFactor 126 = .ok (.if_icmp .ne 12, 3) := by decide +kernel
theorem dX12_compileFactor_129 : decode cX12_compileFactor 129 = .ok (.aload_n 0, 1) := by decide +kernel
theorem dX12_compileFactor_130 : decode cX12_compileFactor 130 = .ok (.bipush 62, 2) := by decide +kernel
theorem dX12_compileFactor_132 : decode cX12_compileFactor 132 = .ok (.invokevirtual 335, 3) := by decide +kernel
theorem dX12_compileFactor_135 : decode cX12_compileFactor 135 = .ok (.ifCond .eq 7, 3) := by decide +kernel
theorem dX12_compileFactor_138 : decode cX12_compileFactor 138 = .ok (.iconst 1, 1) := by decide +kernel
theorem dX12_compileFactor_139 : decode cX12_compileFactor 139 = .ok (.goto 4, 3) := by decide +kernel
theorem dX12_compileFactor_142 : decode cX12_compileFactor 142 = .ok (.iconst 0, 1) := by decide +kernel
theorem dX12_compileFactor_143 : decode cX12_compileFactor 143 = .ok (.iconst 1, 1) := by decide +kernel
theorem dX12_compileFactor_144 : decode cX12_compileFactor 144 = .ok (.invokevirtual 328, 3) := by decide +kernel
theorem dX12_compileFactor_147 : decode cX12_compileFactor 147 = .ok (.aload_n 0, 1) := by decide +kernel
theorem dX12_compileFactor_148 : decode cX12_compileFactor 148 = .ok (.invokevirtual 332, 3) := by decide +kernel
theorem dX12_compileFactor_151 : decode cX12_compileFactor 151 = .ok (.aload_n 0, 1) := by decide +kernel
theorem dX12_compileFactor_152 : decode cX12_compileFactor 152 = .ok (.invokevirtual 393, 3) := by decide +kernel
theorem dX12_compileFactor_155 : decode cX12_compileFactor 155 = .ok (.aload_n 0, 1) := by decide +kernel
theorem dX12_compileFactor_156 : decode cX12_compileFactor 156 = .ok (.iload_n 1, 1) := by decide +kernel
theorem dX12_compileFactor_157 : decode cX12_compileFactor 157 = .ok (.invokevirtual 379, 3) := by decide +kernel
theorem dX12_compileFactor_160 : decode cX12_compileFactor 160 = .ok (.return_, 1) := by decide +kernel
theorem dX12_compileConjunction_0 : decode cX12_compileConjunction 0 = .ok (.aload_n 0, 1) := by decide +kernel
theorem dX12_compileConjunction_1 : decode cX12_compileConjunction 1 = .ok (.invokevirtual 387, 3) := by decide +kernel
theorem dX12_compileConjunction_4 : decode cX12_compileConjunction 4 = .ok (.aload_n 0, 1) := by decide +kernel
theorem dX12_compileConjunction_5 : decode cX12_compileConjunction 5 = .ok (.ldc_w 396, 3) := by decide +kernel
theorem dX12_compileConjunction_8 : decode cX12_compileConjunction 8 = .ok (.invokevirtual 398, 3) := by decide +kernel
theorem dX12_compileConjunction_11 : decode cX12_compileConjunction 11 = .ok (.ifCond .eq 16, 3) := by decide +kernel
theorem dX12_compileConjunction_14 : decode cX12_compileConjunction 14 = .ok (.aload_n 0, 1) := by decide +kernel
theorem dX12_compileConjunction_15 : decode cX12_compileConjunction 15 = .ok (.invokevirtual 387, 3) := by decide +kernel
theorem dX12_compileConjunction_18 : decode cX12_compileConjunction 18 = .ok (.aload_n 0, 1) := by decide +kernel
theorem dX12_compileConjunction_19 : decode cX12_compileConjunction 19 = .ok (.bipush (-24), 2) := by decide +kernel
theorem dX12_compileConjunction_21 : decode cX12_compileConjunction 21 = .ok (.invokevirtual 379, 3) := by decide +kernel
theorem dX12_compileConjunction_24 : decode cX12_compileConjunction 24 = .ok (.goto (-20), 3) := by decide +kernel
theorem dX12_compileConjunction_27 : decode cX12_compileConjunction 27 = .ok (.return_, 1) := by decide +kernel
theorem dX12_compileTest_0 : decode cX12_compileTest 0 = .ok (.aload_n 0, 1) := by decide +kernel
theorem dX12_compileTest_1 : decode cX12_compileTest 1 = .ok (.invokevirtual 401, 3) := by decide +kernel
theorem dX12_compileTest_4 : decode cX12_compileTest 4 = .ok (.aload_n 0, 1) := by decide +kernel
theorem dX12_compileTest_5 : decode cX12_compileTest 5 = .ok (.ldc_w 404, 3) := by decide +kernel
theorem dX12_compileTest_8 : decode cX12_compileTest 8 = .ok (.invokevirtual 398, 3) := by decide +kernel
theorem dX12_compileTest_11 : decode cX12_compileTest 11 = .ok (.ifCond .eq 16, 3) := by decide +kernel
theorem dX12_compileTest_14 : decode cX12_compileTest 14 = .ok (.aload_n 0, 1) := by decide +kernel
theorem dX12_compileTest_15 : decode cX12_compileTest 15 = .ok (.invokevirtual 401, 3) := by decide +kernel
theorem dX12_compileTest_18 : decode cX12_compileTest 18 = .ok (.aload_n 0, 1) := by decide +kernel
theorem dX12_compileTest_19 : decode cX12_compileTest 19 = .ok (.bipush (-25), 2) := by decide +kernel
theorem dX12_compileTest_21 : decode cX12_compileTest 21 = .ok (.invokevirtual 379, 3) := by decide +kernel
theorem dX12_compileTest_24 : decode cX12_compileTest 24 = .ok (.goto (-20), 3) := by decide +kernel
theorem dX12_compileTest_27 : decode cX12_compileTest 27 = .ok (.return_, 1) := by decide +kernel
theorem dX12_property_0 : decode cX12_property 0 = .ok (.iload_n 2, 1) := by decide +kernel
theorem dX12_property_1 : decode cX12_property 1 = .ok (.tableswitch 130 0 6 #[43, 45, 52, 59, 66, 86, 106], 43) := by decide +kernel
theorem dX12_property_44 : decode cX12_property 44 = .ok (.iload_n 1, 1) := by decide +kernel
theorem dX12_property_45 : decode cX12_property 45 = .ok (.ireturn, 1) := by decide +kernel
theorem dX12_property_46 : decode cX12_property 46 = .ok (.aload_n 0, 1) := by decide +kernel
theorem dX12_property_47 : decode cX12_property 47 = .ok (.iload_n 1, 1) := by decide +kernel
theorem dX12_property_48 : decode cX12_property 48 = .ok (.iconst 0, 1) := by decide +kernel
theorem dX12_property_49 : decode cX12_property 49 = .ok (.invokevirtual 77, 3) := by decide +kernel
theorem dX12_property_52 : decode cX12_property 52 = .ok (.ireturn, 1) := by decide +kernel
theorem dX12_property_53 : decode cX12_property 53 = .ok (.aload_n 0, 1) := by decide +kernel
theorem dX12_property_54 : decode cX12_property 54 = .ok (.iload_n 1, 1) := by decide +kernel
theorem dX12_property_55 : decode cX12_property 55 = .ok (.iconst 1, 1) := by decide +kernel
theorem dX12_property_56 : decode cX12_property 56 = .ok (.invokevirtual 77, 3) := by decide +kernel
theorem dX12_property_59 : decode cX12_property 59 = .ok (.ireturn, 1) := by decide +kernel
theorem dX12_property_60 : decode cX12_property 60 = .ok (.aload_n 0, 1) := by decide +kernel
theorem dX12_property_61 : decode cX12_property 61 = .ok (.iload_n 1, 1) := by decide +kernel
theorem dX12_property_62 : decode cX12_property 62 = .ok (.iconst 4, 1) := by decide +kernel
theorem dX12_property_63 : decode cX12_property 63 = .ok (.invokevirtual 77, 3) := by decide +kernel
theorem dX12_property_66 : decode cX12_property 66 = .ok (.ireturn, 1) := by decide +kernel
theorem dX12_property_67 : decode cX12_property 67 = .ok (.aload_n 0, 1) := by decide +kernel
theorem dX12_property_68 : decode cX12_property 68 = .ok (.iload_n 1, 1) := by decide +kernel
theorem dX12_property_69 : decode cX12_property 69 = .ok (.invokevirtual 135, 3) := by decide +kernel
theorem dX12_property_72 : decode cX12_property 72 = .ok (.ifCond .eq 12, 3) := by decide +kernel
theorem dX12_property_75 : decode cX12_property 75 = .ok (.aload_n 0, 1) := by decide +kernel
theorem dX12_property_76 : decode cX12_property 76 = .ok (.iload_n 1, 1) := by decide +kernel
theorem dX12_property_77 : decode cX12_property 77 = .ok (.iconst 5, 1) := by decide +kernel
theorem dX12_property_78 : decode cX12_property 78 = .ok (.invokevirtual 77, 3) := by decide +kernel
theorem dX12_property_81 : decode cX12_property 81 = .ok (.goto 5, 3) := by decide +kernel
theorem dX12_property_84 : decode cX12_property 84 = .ok (.bipush 9, 2) := by decide +kernel
theorem dX12_property_86 : decode cX12_property 86 = .ok (.ireturn, 1) := by decide +kernel
theorem dX12_property_87 : decode cX12_property 87 = .ok (.aload_n 0, 1) := by decide +kernel
theorem dX12_property_88 : decode cX12_property 88 = .ok (.iload_n 1, 1) := by decide +kernel
theorem dX12_property_89 : decode cX12_property 89 = .ok (.invokevirtual 135, 3) := by decide +kernel
theorem dX12_property_92 : decode cX12_property 92 = .ok (.ifCond .eq 13, 3) := by decide +kernel
theorem dX12_property_95 : decode cX12_property 95 = .ok (.aload_n 0, 1) := by decide +kernel
theorem dX12_property_96 : decode cX12_property 96 = .ok (.iload_n 1, 1) := by decide +kernel
theorem dX12_property_97 : decode cX12_property 97 = .ok (.bipush 6, 2) := by decide +kernel
theorem dX12_property_99 : decode cX12_property 99 = .ok (.invokevirtual 77, 3) := by decide +kernel
theorem dX12_property_102 : decode cX12_property 102 = .ok (.goto 4, 3) := by decide +kernel
theorem dX12_property_105 : decode cX12_property 105 = .ok (.iconst 0, 1) := by decide +kernel
theorem dX12_property_106 : decode cX12_property 106 = .ok (.ireturn, 1) := by decide +kernel
theorem dX12_property_107 : decode cX12_property 107 = .ok (.aload_n 0, 1) := by decide +kernel
theorem dX12_property_108 : decode cX12_property 108 = .ok (.iload_n 1, 1) := by decide +kernel
theorem dX12_property_109 : decode cX12_property 109 = .ok (.invokevirtual 135, 3) := by decide +kernel
theorem dX12_property_112 : decode cX12_property 112 = .ok (.ifCond .eq 17, 3) := by decide +kernel
theorem dX12_property_115 : decode cX12_property 115 = .ok (.aload_n 0, 1) := by decide +kernel
theorem dX12_property_116 : decode cX12_property 116 = .ok (.iload_n 1, 1) := by decide +kernel
theorem dX12_property_117 : decode cX12_property 117 = .ok (.aload_n 0, 1) := by decide +kernel
theorem dX12_property_118 : decode cX12_property 118 = .ok (.iload_n 1, 1) := by decide +kernel
theorem dX12_property_119 : decode cX12_property 119 = .ok (.iconst 5, 1) := by decide +kernel
theorem dX12_property_120 : decode cX12_property 120 = .ok (.invokevirtual 77, 3) := by decide +kernel
theorem dX12_property_123 : decode cX12_property 123 = .ok (.invokevirtual 154, 3) := by decide +kernel
theorem dX12_property_126 : decode cX12_property 126 = .ok (.goto 4, 3) := by decide +kernel
theorem dX12_property_129 : decode cX12_property 129 = .ok (.iconst 0, 1) := by decide +kernel
theorem dX12_property_130 : decode cX12_property 130 = .ok (.ireturn, 1) := by decide +kernel
theorem dX12_property_131 : decode cX12_property 131 = .ok (.aload_n 0, 1) := by decide +kernel
theorem dX12_property_132 : decode cX12_property 132 = .ok (.iload_n 1, 1) := by decide +kernel
theorem dX12_property_133 : decode cX12_property 133 = .ok (.invokevirtual 226, 3) := by decide +kernel
theorem dX12_property_136 : decode cX12_property 136 = .ok (.ifCond .eq 7, 3) := by decide +kernel
theorem dX12_property_139 : decode cX12_property 139 = .ok (.iconst 1, 1) := by decide +kernel
theorem dX12_property_140 : decode cX12_property 140 = .ok (.goto 4, 3) := by decide +kernel
theorem dX12_property_143 : decode cX12_property 143 = .ok (.iconst 0, 1) := by decide +kernel
theorem dX12_property_144 : decode cX12_property 144 = .ok (.ireturn, 1) := by decide +kernel
theorem dX12_operate_0 : decode cX12_operate 0 = .ok (.iload_n 0, 1) := by decide +kernel
theorem dX12_operate_1 : decode cX12_operate 1 = .ok (.tableswitch 72 (-24) (-20) #[68, 72, 57, 46, 35], 35) := by decide +kernel
theorem dX12_operate_36 : decode cX12_operate 36 = .ok (.iload_n 1, 1) := by decide +kernel
theorem dX12_operate_37 : decode cX12_operate 37 = .ok (.iload_n 2, 1) := by decide +kernel
theorem dX12_operate_38 : decode cX12_operate 38 = .ok (.if_icmp .ge 7, 3) := by decide +kernel
theorem dX12_operate_41 : decode cX12_operate 41 = .ok (.iconst 1, 1) := by decide +kernel
theorem dX12_operate_42 : decode cX12_operate 42 = .ok (.goto 4, 3) := by decide +kernel
theorem dX12_operate_45 : decode cX12_operate 45 = .ok (.iconst 0, 1) := by decide +kernel
theorem dX12_operate_46 : decode cX12_operate 46 = .ok (.ireturn, 1) := by decide +kernel
theorem dX12_operate_47 : decode cX12_operate 47 = .ok (.iload_n 1, 1) := by decide +kernel
theorem dX12_operate_48 : decode cX12_operate 48 = .ok (.iload_n 2, 1) := by decide +kernel
theorem dX12_operate_49 : decode cX12_operate 49 = .ok (.if_icmp .ne 7, 3) := by decide +kernel
theorem dX12_operate_52 : decode cX12_operate 52 = .ok (.iconst 1, 1) := by decide +kernel
theorem dX12_operate_53 : decode cX12_operate 53 = .ok (.goto 4, 3) := by decide +kernel
theorem dX12_operate_56 : decode cX12_operate 56 = .ok (.iconst 0, 1) := by decide +kernel
theorem dX12_operate_57 : decode cX12_operate 57 = .ok (.ireturn, 1) := by decide +kernel
theorem dX12_operate_58 : decode cX12_operate 58 = .ok (.iload_n 1, 1) := by decide +kernel
theorem dX12_operate_59 : decode cX12_operate 59 = .ok (.iload_n 2, 1) := by decide +kernel
theorem dX12_operate_60 : decode cX12_operate 60 = .ok (.if_icmp .le 7, 3) := by decide +kernel
theorem dX12_operate_63 : decode cX12_operate 63 = .ok (.iconst 1, 1) := by decide +kernel
theorem dX12_operate_64 : decode cX12_operate 64 = .ok (.goto 4, 3) := by decide +kernel
theorem dX12_operate_67 : decode cX12_operate 67 = .ok (.iconst 0, 1) := by decide +kernel
theorem dX12_operate_68 : decode cX12_operate 68 = .ok (.ireturn, 1) := by decide +kernel
theorem dX12_operate_69 : decode cX12_operate 69 = .ok (.iload_n 1, 1) := by decide +kernel
theorem dX12_operate_70 : decode cX12_operate 70 = .ok (.iload_n 2, 1) := by decide +kernel
theorem dX12_operate_71 : decode cX12_operate 71 = .ok (.iand, 1) := by decide +kernel
theorem dX12_operate_72 : decode cX12_operate 72 = .ok (.ireturn, 1) := by decide +kernel
theorem dX12_operate_73 : decode cX12_operate 73 = .ok (.iload_n 1, 1) := by decide +kernel
theorem dX12_operate_74 : decode cX12_operate 74 = .ok (.iload_n 2, 1) := by decide +kernel
theorem dX12_operate_75 : decode cX12_operate 75 = .ok (.ior, 1) := by decide +kernel
theorem dX12_operate_76 : decode cX12_operate 76 = .ok (.ireturn, 1) := by decide +kernel
theorem dX12_holds_0 : decode cX12_holds 0 = .ok (.iconst 0, 1) := by decide +kernel
theorem dX12_holds_1 : decode cX12_holds 1 = .ok (.istore_n 2, 1) := by decide +kernel
theorem dX12_holds_2 : decode cX12_holds 2 = .ok (.iconst 0, 1) := by decide +kernel
theorem dX12_holds_3 : decode cX12_holds 3 = .ok (.istore_n 3, 1) := by decide +kernel
theorem dX12_holds_4 : decode cX12_holds 4 = .ok (.iload_n 3, 1) := by decide +kernel
theorem dX12_holds_5 : decode cX12_holds 5 = .ok (.aload_n 0, 1) := by decide +kernel
theorem dX12_holds_6 : decode cX12_holds 6 = .ok (.getfield 376, 3) := by decide +kernel
theorem dX12_holds_9 : decode cX12_holds 9 = .ok (.if_icmp .ge 113, 3) := by decide +kernel
theorem dX12_holds_12 : decode cX12_holds 12 = .ok (.aload_n 0, 1) := by decide +kernel
theorem dX12_holds_13 : decode cX12_holds 13 = .ok (.getfield 60, 3) := by decide +kernel
theorem dX12_holds_16 : decode cX12_holds 16 = .ok (.iload_n 3, 1) := by decide +kernel
theorem dX12_holds_17 : decode cX12_holds 17 = .ok (.iaload, 1) := by decide +kernel
theorem dX12_holds_18 : decode cX12_holds 18 = .ok (.istore 4, 2) := by decide +kernel
theorem dX12_holds_20 : decode cX12_holds 20 = .ok (.iload 4, 2) := by decide +kernel
theorem dX12_holds_22 : decode cX12_holds 22 = .ok (.bipush (-23), 2) := by decide +kernel
theorem dX12_holds_24 : decode cX12_holds 24 = .ok (.if_icmp .ne 24, 3) := by decide +kernel
theorem dX12_holds_27 : decode cX12_holds 27 = .ok (.aload_n 0, 1) := by decide +kernel
theorem dX12_holds_28 : decode cX12_holds 28 = .ok (.getfield 63, 3) := by decide +kernel
theorem dX12_holds_31 : decode cX12_holds 31 = .ok (.iload_n 2, 1) := by decide +kernel
theorem dX12_holds_32 : decode cX12_holds 32 = .ok (.iconst 1, 1) := by decide +kernel
theorem dX12_holds_33 : decode cX12_holds 33 = .ok (.isub, 1) := by decide +kernel
theorem dX12_holds_34 : decode cX12_holds 34 = .ok (.iconst 1, 1) := by decide +kernel
theorem dX12_holds_35 : decode cX12_holds 35 = .ok (.aload_n 0, 1) := by decide +kernel
theorem dX12_holds_36 : decode cX12_holds 36 = .ok (.getfield 63, 3) := by decide +kernel
theorem dX12_holds_39 : decode cX12_holds 39 = .ok (.iload_n 2, 1) := by decide +kernel
theorem dX12_holds_40 : decode cX12_holds 40 = .ok (.iconst 1, 1) := by decide +kernel
theorem dX12_holds_41 : decode cX12_holds 41 = .ok (.isub, 1) := by decide +kernel
theorem dX12_holds_42 : decode cX12_holds 42 = .ok (.iaload, 1) := by decide +kernel
theorem dX12_holds_43 : decode cX12_holds 43 = .ok (.isub, 1) := by decide +kernel
theorem dX12_holds_44 : decode cX12_holds 44 = .ok (.iastore, 1) := by decide +kernel
theorem dX12_holds_45 : decode cX12_holds 45 = .ok (.goto 71, 3) := by decide +kernel
theorem dX12_holds_48 : decode cX12_holds 48 = .ok (.iload 4, 2) := by decide +kernel
theorem dX12_holds_50 : decode cX12_holds 50 = .ok (.bipush (-20), 2) := by decide +kernel
theorem dX12_holds_52 : decode cX12_holds 52 = .ok (.if_icmp .le 34, 3) := by decide +kernel
theorem dX12_holds_55 : decode cX12_holds 55 = .ok (.aload_n 0, 1) := by decide +kernel
theorem dX12_holds_56 : decode cX12_holds 56 = .ok (.getfield 63, 3) := by decide +kernel
theorem dX12_holds_59 : decode cX12_holds 59 = .ok (.iload_n 2, 1) := by decide +kernel
theorem dX12_holds_60 : decode cX12_holds 60 = .ok (.iload 4, 2) := by decide +kernel
theorem dX12_holds_62 : decode cX12_holds 62 = .ok (.ifCond .lt 8, 3) := by decide +kernel
theorem dX12_holds_65 : decode cX12_holds 65 = .ok (.iload 4, 2) := by decide +kernel
theorem dX12_holds_67 : decode cX12_holds 67 = .ok (.goto 12, 3) := by decide +kernel
theorem dX12_holds_70 : decode cX12_holds 70 = .ok (.aload_n 0, 1) := by decide +kernel
theorem dX12_holds_71 : decode cX12_holds 71 = .ok (.iload_n 1, 1) := by decide +kernel
theorem dX12_holds_72 : decode cX12_holds 72 = .ok (.iconst (-1), 1) := by decide +kernel
theorem dX12_holds_73 : decode cX12_holds 73 = .ok (.iload 4, 2) := by decide +kernel
theorem dX12_holds_75 : decode cX12_holds 75 = .ok (.isub, 1) := by decide +kernel
theorem dX12_holds_76 : decode cX12_holds 76 = .ok (.invokevirtual 406, 3) := by decide +kernel
theorem dX12_holds_79 : decode cX12_holds 79 = .ok (.iastore, 1) := by decide +kernel
theorem dX12_holds_80 : decode cX12_holds 80 = .ok (.iinc 2 1, 3) := by decide +kernel
theorem dX12_holds_83 : decode cX12_holds 83 = .ok (.goto 33, 3) := by decide +kernel
theorem dX12_holds_86 : decode cX12_holds 86 = .ok (.iinc 2 (-1), 3) := by decide +kernel
theorem dX12_holds_89 : decode cX12_holds 89 = .ok (.aload_n 0, 1) := by decide +kernel
theorem dX12_holds_90 : decode cX12_holds 90 = .ok (.getfield 63, 3) := by decide +kernel
theorem dX12_holds_93 : decode cX12_holds 93 = .ok (.iload_n 2, 1) := by decide +kernel
theorem dX12_holds_94 : decode cX12_holds 94 = .ok (.iconst 1, 1) := by decide +kernel
theorem dX12_holds_95 : decode cX12_holds 95 = .ok (.isub, 1) := by decide +kernel
theorem dX12_holds_96 : decode cX12_holds 96 = .ok (.iload 4, 2) := by decide +kernel
theorem dX12_holds_98 : decode cX12_holds 98 = .ok (.aload_n 0, 1) := by decide +kernel
theorem dX12_holds_99 : decode cX12_holds 99 = .ok (.getfield 63, 3) := by decide +kernel
theorem dX12_holds_102 : decode cX12_holds 102 = .ok (.iload_n 2, 1) := by decide +kernel
theorem dX12_holds_103 : decode cX12_holds 103 = .ok (.iconst 1, 1) := by decide +kernel
theorem dX12_holds_104 : decode cX12_holds 104 = .ok (.isub, 1) := by decide +kernel
theorem dX12_holds_105 : decode cX12_holds 105 = .ok (.iaload, 1) := by decide +kernel
theorem dX12_holds_106 : decode cX12_holds 106 = .ok (.aload_n 0, 1) := by decide +kernel
theorem dX12_holds_107 : decode cX12_holds 107 = .ok (.getfield 63, 3) := by decide +kernel
theorem dX12_holds_110 : decode cX12_holds 110 = .ok (.iload_n 2, 1) := by decide +kernel
theorem dX12_holds_111 : decode cX12_holds 111 = .ok (.iaload, 1) := by decide +kernel
theorem dX12_holds_112 : decode cX12_holds 112 = .ok (.invokestatic 409, 3) := by decide +kernel
theorem dX12_holds_115 : decode cX12_holds 115 = .ok (.iastore, 1) := by decide +kernel
theorem dX12_holds_116 : decode cX12_holds 116 = .ok (.iinc 3 1, 3) := by decide +kernel
theorem dX12_holds_119 : decode cX12_holds 119 = .ok (.goto (-115), 3) := by decide +kernel
theorem dX12_holds_122 : decode cX12_holds 122 = .ok (.aload_n 0, 1) := by decide +kernel
theorem dX12_holds_123 : decode cX12_holds 123 = .ok (.getfield 63, 3) := by decide +kernel
theorem dX12_holds_126 : decode cX12_holds 126 = .ok (.iconst 0, 1) := by decide +kernel
theorem dX12_holds_127 : decode cX12_holds 127 = .ok (.iaload, 1) := by decide +kernel
theorem dX12_holds_128 : decode cX12_holds 128 = .ok (.iconst 1, 1) := by decide +kernel
theorem dX12_holds_129 : decode cX12_holds 129 = .ok (.if_icmp .ne 7, 3) := by decide +kernel
theorem dX12_holds_132 : decode cX12_holds 132 = .ok (.iconst 1, 1) := by decide +kernel
theorem dX12_holds_133 : decode cX12_holds 133 = .ok (.goto 4, 3) := by decide +kernel
theorem dX12_holds_136 : decode cX12_holds 136 = .ok (.iconst 0, 1) := by decide +kernel
theorem dX12_holds_137 : decode cX12_holds 137 = .ok (.ireturn, 1) := by decide +kernel
theorem dX12_query_0 : decode cX12_query 0 = .ok (.aload_n 0, 1) := by decide +kernel
theorem dX12_query_1 : decode cX12_query 1 = .ok (.iconst 0, 1) := by decide +kernel
theorem dX12_query_2 : decode cX12_query 2 = .ok (.putfield 70, 3) := by decide +kernel
theorem dX12_query_5 : decode cX12_query 5 = .ok (.iload_n 1, 1) := by decide +kernel
theorem dX12_query_6 : decode cX12_query 6 = .ok (.iconst 0, 1) := by decide +kernel
theorem dX12_query_7 : decode cX12_query 7 = .ok (.aload_n 0, 1) := by decide +kernel
theorem dX12_query_8 : decode cX12_query 8 = .ok (.getfield 277, 3) := by decide +kernel
theorem dX12_query_11 : decode cX12_query 11 = .ok (.sipush 200, 3) := by decide +kernel
theorem dX12_query_14 : decode cX12_query 14 = .ok (.invokestatic 223, 3) := by decide +kernel
theorem dX12_query_17 : decode cX12_query 17 = .ok (.invokestatic 73, 3) := by decide +kernel
theorem dX12_query_20 : decode cX12_query 20 = .ok (.ifCond .ne 9, 3) := by decide +kernel
theorem dX12_query_23 : decode cX12_query 23 = .ok (.aload_n 0, 1) := by decide +kernel
theorem dX12_query_24 : decode cX12_query 24 = .ok (.iconst 1, 1) := by decide +kernel
theorem dX12_query_25 : decode cX12_query 25 = .ok (.invokevirtual 108, 3) := by decide +kernel
theorem dX12_query_28 : decode cX12_query 28 = .ok (.ireturn, 1) := by decide +kernel
theorem dX12_query_29 : decode cX12_query 29 = .ok (.aload_n 0, 1) := by decide +kernel
theorem dX12_query_30 : decode cX12_query 30 = .ok (.iconst 0, 1) := by decide +kernel
theorem dX12_query_31 : decode cX12_query 31 = .ok (.putfield 376, 3) := by decide +kernel
theorem dX12_query_34 : decode cX12_query 34 = .ok (.aload_n 0, 1) := by decide +kernel
theorem dX12_query_35 : decode cX12_query 35 = .ok (.iload_n 1, 1) := by decide +kernel
theorem dX12_query_36 : decode cX12_query 36 = .ok (.invokevirtual 357, 3) := by decide +kernel
theorem dX12_query_39 : decode cX12_query 39 = .ok (.aload_n 0, 1) := by decide +kernel
theorem dX12_query_40 : decode cX12_query 40 = .ok (.ldc_w 412, 3) := by decide +kernel
theorem dX12_query_43 : decode cX12_query 43 = .ok (.invokevirtual 324, 3) := by decide +kernel
theorem dX12_query_46 : decode cX12_query 46 = .ok (.istore_n 2, 1) := by decide +kernel
theorem dX12_query_47 : decode cX12_query 47 = .ok (.aload_n 0, 1) := by decide +kernel
theorem dX12_query_48 : decode cX12_query 48 = .ok (.iload_n 2, 1) := by decide +kernel
theorem dX12_query_49 : decode cX12_query 49 = .ok (.ifCond .ne 13, 3) := by decide +kernel
theorem dX12_query_52 : decode cX12_query 52 = .ok (.aload_n 0, 1) := by decide +kernel
theorem dX12_query_53 : decode cX12_query 53 = .ok (.ldc_w 414, 3) := by decide +kernel
theorem dX12_query_56 : decode cX12_query 56 = .ok (.invokevirtual 324, 3) := by decide +kernel
theorem dX12_query_59 : decode cX12_query 59 = .ok (.ifCond .eq 7, 3) := by decide +kernel
theorem dX12_query_62 : decode cX12_query 62 = .ok (.iconst 1, 1) := by decide +kernel
theorem dX12_query_63 : decode cX12_query 63 = .ok (.goto 4, 3) := by decide +kernel
theorem dX12_query_66 : decode cX12_query 66 = .ok (.iconst 0, 1) := by decide +kernel
theorem dX12_query_67 : decode cX12_query 67 = .ok (.iconst 1, 1) := by decide +kernel
theorem dX12_query_68 : decode cX12_query 68 = .ok (.invokevirtual 328, 3) := by decide +kernel
theorem dX12_query_71 : decode cX12_query 71 = .ok (.aload_n 0, 1) := by decide +kernel
theorem dX12_query_72 : decode cX12_query 72 = .ok (.invokevirtual 332, 3) := by decide +kernel
theorem dX12_query_75 : decode cX12_query 75 = .ok (.aload_n 0, 1) := by decide +kernel
theorem dX12_query_76 : decode cX12_query 76 = .ok (.invokevirtual 390, 3) := by decide +kernel
theorem dX12_query_79 : decode cX12_query 79 = .ok (.aload_n 0, 1) := by decide +kernel
theorem dX12_query_80 : decode cX12_query 80 = .ok (.aload_n 0, 1) := by decide +kernel
theorem dX12_query_81 : decode cX12_query 81 = .ok (.getfield 301, 3) := by decide +kernel
theorem dX12_query_84 : decode cX12_query 84 = .ok (.ifCond .ne 10, 3) := by decide +kernel
theorem dX12_query_87 : decode cX12_query 87 = .ok (.aload_n 0, 1) := by decide +kernel
theorem dX12_query_88 : decode cX12_query 88 = .ok (.getfield 292, 3) := by decide +kernel
theorem dX12_query_91 : decode cX12_query 91 = .ok (.ifCond .ne 7, 3) := by decide +kernel
theorem dX12_query_94 : decode cX12_query 94 = .ok (.iconst 1, 1) := by decide +kernel
theorem dX12_query_95 : decode cX12_query 95 = .ok (.goto 4, 3) := by decide +kernel
theorem dX12_query_98 : decode cX12_query 98 = .ok (.iconst 0, 1) := by decide +kernel
theorem dX12_query_99 : decode cX12_query 99 = .ok (.iconst 1, 1) := by decide +kernel
theorem dX12_query_100 : decode cX12_query 100 = .ok (.invokevirtual 328, 3) := by decide +kernel
theorem dX12_query_103 : decode cX12_query 103 = .ok (.aload_n 0, 1) := by decide +kernel
theorem dX12_query_104 : decode cX12_query 104 = .ok (.invokevirtual 374, 3) := by decide +kernel
theorem dX12_query_107 : decode cX12_query 107 = .ok (.ifCond .eq 12, 3) := by decide +kernel
theorem dX12_query_110 : decode cX12_query 110 = .ok (.ldc_w 416, 3) := by decide +kernel
theorem dX12_query_113 : decode cX12_query 113 = .ok (.aload_n 0, 1) := by decide +kernel
theorem dX12_query_114 : decode cX12_query 114 = .ok (.getfield 301, 3) := by decide +kernel
theorem dX12_query_117 : decode cX12_query 117 = .ok (.isub, 1) := by decide +kernel
theorem dX12_query_118 : decode cX12_query 118 = .ok (.ireturn, 1) := by decide +kernel
theorem dX12_query_119 : decode cX12_query 119 = .ok (.iconst 0, 1) := by decide +kernel
theorem dX12_query_120 : decode cX12_query 120 = .ok (.istore_n 3, 1) := by decide +kernel
theorem dX12_query_121 : decode cX12_query 121 = .ok (.iconst 0, 1) := by decide +kernel
theorem dX12_query_122 : decode cX12_query 122 = .ok (.istore 4, 2) := by decide +kernel
theorem dX12_query_124 : decode cX12_query 124 = .ok (.iload 4, 2) := by decide +kernel
theorem dX12_query_126 : decode cX12_query 126 = .ok (.aload_n 0, 1) := by decide +kernel
theorem dX12_query_127 : decode cX12_query 127 = .ok (.getfield 9, 3) := by decide +kernel
theorem dX12_query_130 : decode cX12_query 130 = .ok (.iconst 2, 1) := by decide +kernel
theorem dX12_query_131 : decode cX12_query 131 = .ok (.iaload, 1) := by decide +kernel
theorem dX12_query_132 : decode cX12_query 132 = .ok (.if_icmp .ge 31, 3) := by decide +kernel
theorem dX12_query_135 : decode cX12_query 135 = .ok (.aload_n 0, 1) := by decide +kernel
theorem dX12_query_136 : decode cX12_query 136 = .ok (.iload 4, 2) := by decide +kernel
theorem dX12_query_138 : decode cX12_query 138 = .ok (.invokevirtual 417, 3) := by decide +kernel
theorem dX12_query_141 : decode cX12_query 141 = .ok (.ifCond .ne 6, 3) := by decide +kernel
theorem dX12_query_144 : decode cX12_query 144 = .ok (.goto 13, 3) := by decide +kernel
theorem dX12_query_147 : decode cX12_query 147 = .ok (.iload_n 2, 1) := by decide +kernel
theorem dX12_query_148 : decode cX12_query 148 = .ok (.ifCond .eq 6, 3) := by decide +kernel
theorem dX12_query_151 : decode cX12_query 151 = .ok (.iload 4, 2) := by decide +kernel
theorem dX12_query_153 : decode cX12_query 153 = .ok (.ireturn, 1) := by decide +kernel
theorem dX12_query_154 : decode cX12_query 154 = .ok (.iinc 3 1, 3) := by decide +kernel
theorem dX12_query_157 : decode cX12_query 157 = .ok (.iinc 4 1, 3) := by decide +kernel
theorem dX12_query_160 : decode cX12_query 160 = .ok (.goto (-36), 3) := by decide +kernel
theorem dX12_query_163 : decode cX12_query 163 = .ok (.iload_n 2, 1) := by decide +kernel
theorem dX12_query_164 : decode cX12_query 164 = .ok (.ifCond .eq 7, 3) := by decide +kernel
theorem dX12_query_167 : decode cX12_query 167 = .ok (.iconst (-1), 1) := by decide +kernel
theorem dX12_query_168 : decode cX12_query 168 = .ok (.goto 4, 3) := by decide +kernel
theorem dX12_query_171 : decode cX12_query 171 = .ok (.iload_n 3, 1) := by decide +kernel
theorem dX12_query_172 : decode cX12_query 172 = .ok (.ireturn, 1) := by decide +kernel
