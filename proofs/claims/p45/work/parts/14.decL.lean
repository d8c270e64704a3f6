theorem dL_most_0 : decode cL_most 0 = .ok (.iload_n 0, 1) := by decide +kernel
theorem dL_most_1 : decode cL_most 1 = .ok (.ldc 7, 2) := by decide +kernel
theorem dL_most_3 : decode cL_most 3 = .ok (.iand, 1) := by decide +kernel
theorem dL_most_4 : decode cL_most 4 = .ok (.iload_n 1, 1) := by decide +kernel
theorem dL_most_5 : decode cL_most 5 = .ok (.irem, 1) := by decide +kernel
theorem dL_most_6 : decode cL_most 6 = .ok (.ireturn, 1) := by decide +kernel
theorem dL_cell_0 : decode cL_cell 0 = .ok (.iload_n 1, 1) := by decide +kernel
theorem dL_cell_1 : decode cL_cell 1 = .ok (.aload_n 0, 1) := by decide +kernel
theorem dL_cell_2 : decode cL_cell 2 = .ok (.arraylength, 1) := by decide +kernel
theorem dL_cell_3 : decode cL_cell 3 = .ok (.if_icmp .ge 9, 3) := by decide +kernel
theorem dL_cell_6 : decode cL_cell 6 = .ok (.aload_n 0, 1) := by decide +kernel
theorem dL_cell_7 : decode cL_cell 7 = .ok (.iload_n 1, 1) := by decide +kernel
theorem dL_cell_8 : decode cL_cell 8 = .ok (.iaload, 1) := by decide +kernel
theorem dL_cell_9 : decode cL_cell 9 = .ok (.goto 7, 3) := by decide +kernel
theorem dL_cell_12 : decode cL_cell 12 = .ok (.bipush 37, 2) := by decide +kernel
theorem dL_cell_14 : decode cL_cell 14 = .ok (.iload_n 1, 1) := by decide +kernel
theorem dL_cell_15 : decode cL_cell 15 = .ok (.imul, 1) := by decide +kernel
theorem dL_cell_16 : decode cL_cell 16 = .ok (.ireturn, 1) := by decide +kernel
theorem dL_add_0 : decode cL_add 0 = .ok (.aload_n 1, 1) := by decide +kernel
theorem dL_add_1 : decode cL_add 1 = .ok (.aload_n 1, 1) := by decide +kernel
theorem dL_add_2 : decode cL_add 2 = .ok (.iconst 5, 1) := by decide +kernel
theorem dL_add_3 : decode cL_add 3 = .ok (.iaload, 1) := by decide +kernel
theorem dL_add_4 : decode cL_add 4 = .ok (.bipush 20, 2) := by decide +kernel
theorem dL_add_6 : decode cL_add 6 = .ok (.irem, 1) := by decide +kernel
theorem dL_add_7 : decode cL_add 7 = .ok (.iconst 4, 1) := by decide +kernel
theorem dL_add_8 : decode cL_add 8 = .ok (.idiv, 1) := by decide +kernel
theorem dL_add_9 : decode cL_add 9 = .ok (.dup2, 1) := by decide +kernel
theorem dL_add_10 : decode cL_add 10 = .ok (.iaload, 1) := by decide +kernel
theorem dL_add_11 : decode cL_add 11 = .ok (.iload_n 2, 1) := by decide +kernel
theorem dL_add_12 : decode cL_add 12 = .ok (.bipush 24, 2) := by decide +kernel
theorem dL_add_14 : decode cL_add 14 = .ok (.bipush 8, 2) := by decide +kernel
theorem dL_add_16 : decode cL_add 16 = .ok (.aload_n 1, 1) := by decide +kernel
theorem dL_add_17 : decode cL_add 17 = .ok (.iconst 5, 1) := by decide +kernel
theorem dL_add_18 : decode cL_add 18 = .ok (.iaload, 1) := by decide +kernel
theorem dL_add_19 : decode cL_add 19 = .ok (.iconst 4, 1) := by decide +kernel
theorem dL_add_20 : decode cL_add 20 = .ok (.irem, 1) := by decide +kernel
theorem dL_add_21 : decode cL_add 21 = .ok (.imul, 1) := by decide +kernel
theorem dL_add_22 : decode cL_add 22 = .ok (.isub, 1) := by decide +kernel
theorem dL_add_23 : decode cL_add 23 = .ok (.ishl, 1) := by decide +kernel
theorem dL_add_24 : decode cL_add 24 = .ok (.ior, 1) := by decide +kernel
theorem dL_add_25 : decode cL_add 25 = .ok (.iastore, 1) := by decide +kernel
theorem dL_add_26 : decode cL_add 26 = .ok (.aload_n 1, 1) := by decide +kernel
theorem dL_add_27 : decode cL_add 27 = .ok (.iconst 5, 1) := by decide +kernel
theorem dL_add_28 : decode cL_add 28 = .ok (.dup2, 1) := by decide +kernel
theorem dL_add_29 : decode cL_add 29 = .ok (.iaload, 1) := by decide +kernel
theorem dL_add_30 : decode cL_add 30 = .ok (.iconst 1, 1) := by decide +kernel
theorem dL_add_31 : decode cL_add 31 = .ok (.iadd, 1) := by decide +kernel
theorem dL_add_32 : decode cL_add 32 = .ok (.iastore, 1) := by decide +kernel
theorem dL_add_33 : decode cL_add 33 = .ok (.aload_n 1, 1) := by decide +kernel
theorem dL_add_34 : decode cL_add 34 = .ok (.iconst 5, 1) := by decide +kernel
theorem dL_add_35 : decode cL_add 35 = .ok (.iaload, 1) := by decide +kernel
theorem dL_add_36 : decode cL_add 36 = .ok (.bipush 20, 2) := by decide +kernel
theorem dL_add_38 : decode cL_add 38 = .ok (.irem, 1) := by decide +kernel
theorem dL_add_39 : decode cL_add 39 = .ok (.ifCond .eq 4, 3) := by decide +kernel
theorem dL_add_42 : decode cL_add 42 = .ok (.return_, 1) := by decide +kernel
theorem dL_add_43 : decode cL_add 43 = .ok (.aload_n 0, 1) := by decide +kernel
theorem dL_add_44 : decode cL_add 44 = .ok (.aload_n 1, 1) := by decide +kernel
theorem dL_add_45 : decode cL_add 45 = .ok (.iconst 0, 1) := by decide +kernel
theorem dL_add_46 : decode cL_add 46 = .ok (.iaload, 1) := by decide +kernel
theorem dL_add_47 : decode cL_add 47 = .ok (.aload_n 1, 1) := by decide +kernel
theorem dL_add_48 : decode cL_add 48 = .ok (.iconst 1, 1) := by decide +kernel
theorem dL_add_49 : decode cL_add 49 = .ok (.iaload, 1) := by decide +kernel
theorem dL_add_50 : decode cL_add 50 = .ok (.aload_n 1, 1) := by decide +kernel
theorem dL_add_51 : decode cL_add 51 = .ok (.iconst 2, 1) := by decide +kernel
theorem dL_add_52 : decode cL_add 52 = .ok (.iaload, 1) := by decide +kernel
theorem dL_add_53 : decode cL_add 53 = .ok (.aload_n 1, 1) := by decide +kernel
theorem dL_add_54 : decode cL_add 54 = .ok (.iconst 3, 1) := by decide +kernel
theorem dL_add_55 : decode cL_add 55 = .ok (.iaload, 1) := by decide +kernel
theorem dL_add_56 : decode cL_add 56 = .ok (.aload_n 1, 1) := by decide +kernel
theorem dL_add_57 : decode cL_add 57 = .ok (.iconst 4, 1) := by decide +kernel
theorem dL_add_58 : decode cL_add 58 = .ok (.iaload, 1) := by decide +kernel
theorem dL_add_59 : decode cL_add 59 = .ok (.invokevirtual 8, 3) := by decide +kernel
theorem dL_add_62 : decode cL_add 62 = .ok (.pop, 1) := by decide +kernel
theorem dL_add_63 : decode cL_add 63 = .ok (.iconst 0, 1) := by decide +kernel
theorem dL_add_64 : decode cL_add 64 = .ok (.istore_n 3, 1) := by decide +kernel
theorem dL_add_65 : decode cL_add 65 = .ok (.iload_n 3, 1) := by decide +kernel
theorem dL_add_66 : decode cL_add 66 = .ok (.iconst 5, 1) := by decide +kernel
theorem dL_add_67 : decode cL_add 67 = .ok (.if_icmp .ge 13, 3) := by decide +kernel
theorem dL_add_70 : decode cL_add 70 = .ok (.aload_n 1, 1) := by decide +kernel
theorem dL_add_71 : decode cL_add 71 = .ok (.iload_n 3, 1) := by decide +kernel
theorem dL_add_72 : decode cL_add 72 = .ok (.iconst 0, 1) := by decide +kernel
theorem dL_add_73 : decode cL_add 73 = .ok (.iastore, 1) := by decide +kernel
theorem dL_add_74 : decode cL_add 74 = .ok (.iinc 3 1, 3) := by decide +kernel
theorem dL_add_77 : decode cL_add 77 = .ok (.goto (-12), 3) := by decide +kernel
theorem dL_add_80 : decode cL_add 80 = .ok (.return_, 1) := by decide +kernel
theorem dL_number_0 : decode cL_number 0 = .ok (.iconst 1, 1) := by decide +kernel
theorem dL_number_1 : decode cL_number 1 = .ok (.istore_n 3, 1) := by decide +kernel
theorem dL_number_2 : decode cL_number 2 = .ok (.iload_n 3, 1) := by decide +kernel
theorem dL_number_3 : decode cL_number 3 = .ok (.iload_n 2, 1) := by decide +kernel
theorem dL_number_4 : decode cL_number 4 = .ok (.bipush 10, 2) := by decide +kernel
theorem dL_number_6 : decode cL_number 6 = .ok (.idiv, 1) := by decide +kernel
theorem dL_number_7 : decode cL_number 7 = .ok (.if_icmp .gt 11, 3) := by decide +kernel
theorem dL_number_10 : decode cL_number 10 = .ok (.iload_n 3, 1) := by decide +kernel
theorem dL_number_11 : decode cL_number 11 = .ok (.bipush 10, 2) := by decide +kernel
theorem dL_number_13 : decode cL_number 13 = .ok (.imul, 1) := by decide +kernel
theorem dL_number_14 : decode cL_number 14 = .ok (.istore_n 3, 1) := by decide +kernel
theorem dL_number_15 : decode cL_number 15 = .ok (.goto (-13), 3) := by decide +kernel
theorem dL_number_18 : decode cL_number 18 = .ok (.iload_n 3, 1) := by decide +kernel
theorem dL_number_19 : decode cL_number 19 = .ok (.ifCond .le 25, 3) := by decide +kernel
theorem dL_number_22 : decode cL_number 22 = .ok (.aload_n 0, 1) := by decide +kernel
theorem dL_number_23 : decode cL_number 23 = .ok (.aload_n 1, 1) := by decide +kernel
theorem dL_number_24 : decode cL_number 24 = .ok (.bipush 48, 2) := by decide +kernel
theorem dL_number_26 : decode cL_number 26 = .ok (.iload_n 2, 1) := by decide +kernel
theorem dL_number_27 : decode cL_number 27 = .ok (.iload_n 3, 1) := by decide +kernel
theorem dL_number_28 : decode cL_number 28 = .ok (.idiv, 1) := by decide +kernel
theorem dL_number_29 : decode cL_number 29 = .ok (.bipush 10, 2) := by decide +kernel
theorem dL_number_31 : decode cL_number 31 = .ok (.irem, 1) := by decide +kernel
theorem dL_number_32 : decode cL_number 32 = .ok (.iadd, 1) := by decide +kernel
theorem dL_number_33 : decode cL_number 33 = .ok (.invokestatic 14, 3) := by decide +kernel
theorem dL_number_36 : decode cL_number 36 = .ok (.iload_n 3, 1) := by decide +kernel
theorem dL_number_37 : decode cL_number 37 = .ok (.bipush 10, 2) := by decide +kernel
theorem dL_number_39 : decode cL_number 39 = .ok (.idiv, 1) := by decide +kernel
theorem dL_number_40 : decode cL_number 40 = .ok (.istore_n 3, 1) := by decide +kernel
theorem dL_number_41 : decode cL_number 41 = .ok (.goto (-23), 3) := by decide +kernel
theorem dL_number_44 : decode cL_number 44 = .ok (.return_, 1) := by decide +kernel
theorem dL_end_0 : decode cL_end 0 = .ok (.aload_n 1, 1) := by decide +kernel
theorem dL_end_1 : decode cL_end 1 = .ok (.iconst 5, 1) := by decide +kernel
theorem dL_end_2 : decode cL_end 2 = .ok (.iaload, 1) := by decide +kernel
theorem dL_end_3 : decode cL_end 3 = .ok (.istore_n 2, 1) := by decide +kernel
theorem dL_end_4 : decode cL_end 4 = .ok (.aload_n 1, 1) := by decide +kernel
theorem dL_end_5 : decode cL_end 5 = .ok (.iconst 5, 1) := by decide +kernel
theorem dL_end_6 : decode cL_end 6 = .ok (.iaload, 1) := by decide +kernel
theorem dL_end_7 : decode cL_end 7 = .ok (.bipush 20, 2) := by decide +kernel
theorem dL_end_9 : decode cL_end 9 = .ok (.irem, 1) := by decide +kernel
theorem dL_end_10 : decode cL_end 10 = .ok (.ifCond .eq 13, 3) := by decide +kernel
theorem dL_end_13 : decode cL_end 13 = .ok (.aload_n 0, 1) := by decide +kernel
theorem dL_end_14 : decode cL_end 14 = .ok (.aload_n 1, 1) := by decide +kernel
theorem dL_end_15 : decode cL_end 15 = .ok (.bipush 32, 2) := by decide +kernel
theorem dL_end_17 : decode cL_end 17 = .ok (.invokestatic 14, 3) := by decide +kernel
theorem dL_end_20 : decode cL_end 20 = .ok (.goto (-16), 3) := by decide +kernel
theorem dL_end_23 : decode cL_end 23 = .ok (.aload_n 1, 1) := by decide +kernel
theorem dL_end_24 : decode cL_end 24 = .ok (.iconst 5, 1) := by decide +kernel
theorem dL_end_25 : decode cL_end 25 = .ok (.iconst 0, 1) := by decide +kernel
theorem dL_end_26 : decode cL_end 26 = .ok (.iastore, 1) := by decide +kernel
theorem dL_end_27 : decode cL_end 27 = .ok (.iload_n 2, 1) := by decide +kernel
theorem dL_end_28 : decode cL_end 28 = .ok (.ireturn, 1) := by decide +kernel
theorem dL_drawn_0 : decode cL_drawn 0 = .ok (.new 20, 3) := by decide +kernel
theorem dL_drawn_3 : decode cL_drawn 3 = .ok (.dup, 1) := by decide +kernel
theorem dL_drawn_4 : decode cL_drawn 4 = .ok (.invokespecial 22, 3) := by decide +kernel
theorem dL_drawn_7 : decode cL_drawn 7 = .ok (.astore_n 2, 1) := by decide +kernel
theorem dL_drawn_8 : decode cL_drawn 8 = .ok (.aload_n 0, 1) := by decide +kernel
theorem dL_drawn_9 : decode cL_drawn 9 = .ok (.iload_n 1, 1) := by decide +kernel
theorem dL_drawn_10 : decode cL_drawn 10 = .ok (.invokestatic 23, 3) := by decide +kernel
theorem dL_drawn_13 : decode cL_drawn 13 = .ok (.istore_n 3, 1) := by decide +kernel
theorem dL_drawn_14 : decode cL_drawn 14 = .ok (.aload_n 2, 1) := by decide +kernel
theorem dL_drawn_15 : decode cL_drawn 15 = .ok (.iconst 1, 1) := by decide +kernel
theorem dL_drawn_16 : decode cL_drawn 16 = .ok (.iload_n 3, 1) := by decide +kernel
theorem dL_drawn_17 : decode cL_drawn 17 = .ok (.iconst 5, 1) := by decide +kernel
theorem dL_drawn_18 : decode cL_drawn 18 = .ok (.invokestatic 27, 3) := by decide +kernel
theorem dL_drawn_21 : decode cL_drawn 21 = .ok (.iadd, 1) := by decide +kernel
theorem dL_drawn_22 : decode cL_drawn 22 = .ok (.putfield 31, 3) := by decide +kernel
theorem dL_drawn_25 : decode cL_drawn 25 = .ok (.iconst 0, 1) := by decide +kernel
theorem dL_drawn_26 : decode cL_drawn 26 = .ok (.istore 4, 2) := by decide +kernel
theorem dL_drawn_28 : decode cL_drawn 28 = .ok (.iload 4, 2) := by decide +kernel
theorem dL_drawn_30 : decode cL_drawn 30 = .ok (.aload_n 2, 1) := by decide +kernel
theorem dL_drawn_31 : decode cL_drawn 31 = .ok (.getfield 31, 3) := by decide +kernel
theorem dL_drawn_34 : decode cL_drawn 34 = .ok (.if_icmp .ge 141, 3) := by decide +kernel
theorem dL_drawn_37 : decode cL_drawn 37 = .ok (.aload_n 0, 1) := by decide +kernel
theorem dL_drawn_38 : decode cL_drawn 38 = .ok (.iload_n 1, 1) := by decide +kernel
theorem dL_drawn_39 : decode cL_drawn 39 = .ok (.iconst 1, 1) := by decide +kernel
theorem dL_drawn_40 : decode cL_drawn 40 = .ok (.iadd, 1) := by decide +kernel
theorem dL_drawn_41 : decode cL_drawn 41 = .ok (.iload 4, 2) := by decide +kernel
theorem dL_drawn_43 : decode cL_drawn 43 = .ok (.iadd, 1) := by decide +kernel
theorem dL_drawn_44 : decode cL_drawn 44 = .ok (.invokestatic 23, 3) := by decide +kernel
theorem dL_drawn_47 : decode cL_drawn 47 = .ok (.istore 5, 2) := by decide +kernel
theorem dL_drawn_49 : decode cL_drawn 49 = .ok (.aload_n 2, 1) := by decide +kernel
theorem dL_drawn_50 : decode cL_drawn 50 = .ok (.getfield 35, 3) := by decide +kernel
theorem dL_drawn_53 : decode cL_drawn 53 = .ok (.iload 4, 2) := by decide +kernel
theorem dL_drawn_55 : decode cL_drawn 55 = .ok (.bipush 8, 2) := by decide +kernel
theorem dL_drawn_57 : decode cL_drawn 57 = .ok (.newarray .int, 2) := by decide +kernel
theorem dL_drawn_59 : decode cL_drawn 59 = .ok (.dup, 1) := by decide +kernel
theorem dL_drawn_60 : decode cL_drawn 60 = .ok (.iconst 0, 1) := by decide +kernel
theorem dL_drawn_61 : decode cL_drawn 61 = .ok (.iload 5, 2) := by decide +kernel
theorem dL_drawn_63 : decode cL_drawn 63 = .ok (.sipush 1000, 3) := by decide +kernel
theorem dL_drawn_66 : decode cL_drawn 66 = .ok (.invokestatic 27, 3) := by decide +kernel
theorem dL_drawn_69 : decode cL_drawn 69 = .ok (.iastore, 1) := by decide +kernel
theorem dL_drawn_70 : decode cL_drawn 70 = .ok (.dup, 1) := by decide +kernel
theorem dL_drawn_71 : decode cL_drawn 71 = .ok (.iconst 1, 1) := by decide +kernel
theorem dL_drawn_72 : decode cL_drawn 72 = .ok (.iload 5, 2) := by decide +kernel
theorem dL_drawn_74 : decode cL_drawn 74 = .ok (.iconst 4, 1) := by decide +kernel
theorem dL_drawn_75 : decode cL_drawn 75 = .ok (.ishr, 1) := by decide +kernel
theorem dL_drawn_76 : decode cL_drawn 76 = .ok (.sipush 1000, 3) := by decide +kernel
theorem dL_drawn_79 : decode cL_drawn 79 = .ok (.invokestatic 27, 3) := by decide +kernel
theorem dL_drawn_82 : decode cL_drawn 82 = .ok (.iastore, 1) := by decide +kernel
theorem dL_drawn_83 : decode cL_drawn 83 = .ok (.dup, 1) := by decide +kernel
theorem dL_drawn_84 : decode cL_drawn 84 = .ok (.iconst 2, 1) := by decide +kernel
theorem dL_drawn_85 : decode cL_drawn 85 = .ok (.bipush 40, 2) := by decide +kernel
theorem dL_drawn_87 : decode cL_drawn 87 = .ok (.iload 5, 2) := by decide +kernel
theorem dL_drawn_89 : decode cL_drawn 89 = .ok (.bipush 8, 2) := by decide +kernel
theorem dL_drawn_91 : decode cL_drawn 91 = .ok (.ishr, 1) := by decide +kernel
theorem dL_drawn_92 : decode cL_drawn 92 = .ok (.bipush 60, 2) := by decide +kernel
theorem dL_drawn_94 : decode cL_drawn 94 = .ok (.invokestatic 27, 3) := by decide +kernel
theorem dL_drawn_97 : decode cL_drawn 97 = .ok (.iadd, 1) := by decide +kernel
theorem dL_drawn_98 : decode cL_drawn 98 = .ok (.iastore, 1) := by decide +kernel
theorem dL_drawn_99 : decode cL_drawn 99 = .ok (.dup, 1) := by decide +kernel
theorem dL_drawn_100 : decode cL_drawn 100 = .ok (.iconst 3, 1) := by decide +kernel
theorem dL_drawn_101 : decode cL_drawn 101 = .ok (.iconst 1, 1) := by decide +kernel
theorem dL_drawn_102 : decode cL_drawn 102 = .ok (.iload 5, 2) := by decide +kernel
theorem dL_drawn_104 : decode cL_drawn 104 = .ok (.bipush 10, 2) := by decide +kernel
theorem dL_drawn_106 : decode cL_drawn 106 = .ok (.ishr, 1) := by decide +kernel
theorem dL_drawn_107 : decode cL_drawn 107 = .ok (.bipush 12, 2) := by decide +kernel
theorem dL_drawn_109 : decode cL_drawn 109 = .ok (.invokestatic 27, 3) := by decide +kernel
theorem dL_drawn_112 : decode cL_drawn 112 = .ok (.iadd, 1) := by decide +kernel
theorem dL_drawn_113 : decode cL_drawn 113 = .ok (.iastore, 1) := by decide +kernel
theorem dL_drawn_114 : decode cL_drawn 114 = .ok (.dup, 1) := by decide +kernel
theorem dL_drawn_115 : decode cL_drawn 115 = .ok (.iconst 4, 1) := by decide +kernel
theorem dL_drawn_116 : decode cL_drawn 116 = .ok (.iconst 1, 1) := by decide +kernel
theorem dL_drawn_117 : decode cL_drawn 117 = .ok (.iload 5, 2) := by decide +kernel
theorem dL_drawn_119 : decode cL_drawn 119 = .ok (.bipush 12, 2) := by decide +kernel
theorem dL_drawn_121 : decode cL_drawn 121 = .ok (.ishr, 1) := by decide +kernel
theorem dL_drawn_122 : decode cL_drawn 122 = .ok (.iconst 2, 1) := by decide +kernel
theorem dL_drawn_123 : decode cL_drawn 123 = .ok (.invokestatic 27, 3) := by decide +kernel
theorem dL_drawn_126 : decode cL_drawn 126 = .ok (.iadd, 1) := by decide +kernel
theorem dL_drawn_127 : decode cL_drawn 127 = .ok (.iastore, 1) := by decide +kernel
theorem dL_drawn_128 : decode cL_drawn 128 = .ok (.dup, 1) := by decide +kernel
theorem dL_drawn_129 : decode cL_drawn 129 = .ok (.iconst 5, 1) := by decide +kernel
theorem dL_drawn_130 : decode cL_drawn 130 = .ok (.iload 5, 2) := by decide +kernel
theorem dL_drawn_132 : decode cL_drawn 132 = .ok (.bipush 14, 2) := by decide +kernel
theorem dL_drawn_134 : decode cL_drawn 134 = .ok (.ishr, 1) := by decide +kernel
theorem dL_drawn_135 : decode cL_drawn 135 = .ok (.iconst 3, 1) := by decide +kernel
theorem dL_drawn_136 : decode cL_drawn 136 = .ok (.invokestatic 27, 3) := by decide +kernel
theorem dL_drawn_139 : decode cL_drawn 139 = .ok (.iastore, 1) := by decide +kernel
theorem dL_drawn_140 : decode cL_drawn 140 = .ok (.dup, 1) := by decide +kernel
theorem dL_drawn_141 : decode cL_drawn 141 = .ok (.bipush 6, 2) := by decide +kernel
theorem dL_drawn_143 : decode cL_drawn 143 = .ok (.iload 5, 2) := by decide +kernel
theorem dL_drawn_145 : decode cL_drawn 145 = .ok (.bipush 16, 2) := by decide +kernel
theorem dL_drawn_147 : decode cL_drawn 147 = .ok (.ishr, 1) := by decide +kernel
theorem dL_drawn_148 : decode cL_drawn 148 = .ok (.bipush 30, 2) := by decide +kernel
theorem dL_drawn_150 : decode cL_drawn 150 = .ok (.invokestatic 27, 3) := by decide +kernel
theorem dL_drawn_153 : decode cL_drawn 153 = .ok (.iastore, 1) := by decide +kernel
theorem dL_drawn_154 : decode cL_drawn 154 = .ok (.dup, 1) := by decide +kernel
theorem dL_drawn_155 : decode cL_drawn 155 = .ok (.bipush 7, 2) := by decide +kernel
theorem dL_drawn_157 : decode cL_drawn 157 = .ok (.iload 5, 2) := by decide +kernel
theorem dL_drawn_159 : decode cL_drawn 159 = .ok (.bipush 18, 2) := by decide +kernel
theorem dL_drawn_161 : decode cL_drawn 161 = .ok (.ishr, 1) := by decide +kernel
theorem dL_drawn_162 : decode cL_drawn 162 = .ok (.bipush 60, 2) := by decide +kernel
theorem dL_drawn_164 : decode cL_drawn 164 = .ok (.invokestatic 27, 3) := by decide +kernel
theorem dL_drawn_167 : decode cL_drawn 167 = .ok (.iastore, 1) := by decide +kernel
theorem dL_drawn_168 : decode cL_drawn 168 = .ok (.aastore, 1) := by decide +kernel
theorem dL_drawn_169 : decode cL_drawn 169 = .ok (.iinc 4 1, 3) := by decide +kernel
theorem dL_drawn_172 : decode cL_drawn 172 = .ok (.goto (-144), 3) := by decide +kernel
theorem dL_drawn_175 : decode cL_drawn 175 = .ok (.iconst 0, 1) := by decide +kernel
theorem dL_drawn_176 : decode cL_drawn 176 = .ok (.istore 4, 2) := by decide +kernel
theorem dL_drawn_178 : decode cL_drawn 178 = .ok (.iload 4, 2) := by decide +kernel
theorem dL_drawn_180 : decode cL_drawn 180 = .ok (.bipush 8, 2) := by decide +kernel
theorem dL_drawn_182 : decode cL_drawn 182 = .ok (.if_icmp .ge 36, 3) := by decide +kernel
theorem dL_drawn_185 : decode cL_drawn 185 = .ok (.iconst 0, 1) := by decide +kernel
theorem dL_drawn_186 : decode cL_drawn 186 = .ok (.istore 5, 2) := by decide +kernel
theorem dL_drawn_188 : decode cL_drawn 188 = .ok (.iload 5, 2) := by decide +kernel
theorem dL_drawn_190 : decode cL_drawn 190 = .ok (.bipush 8, 2) := by decide +kernel
theorem dL_drawn_192 : decode cL_drawn 192 = .ok (.if_icmp .ge 20, 3) := by decide +kernel
theorem dL_drawn_195 : decode cL_drawn 195 = .ok (.aload_n 2, 1) := by decide +kernel
theorem dL_drawn_196 : decode cL_drawn 196 = .ok (.getfield 38, 3) := by decide +kernel
theorem dL_drawn_199 : decode cL_drawn 199 = .ok (.iload 4, 2) := by decide +kernel
theorem dL_drawn_201 : decode cL_drawn 201 = .ok (.aaload, 1) := by decide +kernel
theorem dL_drawn_202 : decode cL_drawn 202 = .ok (.iload 5, 2) := by decide +kernel
theorem dL_drawn_204 : decode cL_drawn 204 = .ok (.iconst (-1), 1) := by decide +kernel
theorem dL_drawn_205 : decode cL_drawn 205 = .ok (.iastore, 1) := by decide +kernel
theorem dL_drawn_206 : decode cL_drawn 206 = .ok (.iinc 5 1, 3) := by decide +kernel
theorem dL_drawn_209 : decode cL_drawn 209 = .ok (.goto (-21), 3) := by decide +kernel
theorem dL_drawn_212 : decode cL_drawn 212 = .ok (.iinc 4 1, 3) := by decide +kernel
theorem dL_drawn_215 : decode cL_drawn 215 = .ok (.goto (-37), 3) := by decide +kernel
theorem dL_drawn_218 : decode cL_drawn 218 = .ok (.aload_n 0, 1) := by decide +kernel
theorem dL_drawn_219 : decode cL_drawn 219 = .ok (.iload_n 1, 1) := by decide +kernel
theorem dL_drawn_220 : decode cL_drawn 220 = .ok (.bipush 6, 2) := by decide +kernel
theorem dL_drawn_222 : decode cL_drawn 222 = .ok (.iadd, 1) := by decide +kernel
theorem dL_drawn_223 : decode cL_drawn 223 = .ok (.invokestatic 23, 3) := by decide +kernel
theorem dL_drawn_226 : decode cL_drawn 226 = .ok (.istore 4, 2) := by decide +kernel
theorem dL_drawn_228 : decode cL_drawn 228 = .ok (.iconst 0, 1) := by decide +kernel
theorem dL_drawn_229 : decode cL_drawn 229 = .ok (.istore 5, 2) := by decide +kernel
theorem dL_drawn_231 : decode cL_drawn 231 = .ok (.iload 5, 2) := by decide +kernel
theorem dL_drawn_233 : decode cL_drawn 233 = .ok (.aload_n 2, 1) := by decide +kernel
theorem dL_drawn_234 : decode cL_drawn 234 = .ok (.getfield 31, 3) := by decide +kernel
theorem dL_drawn_237 : decode cL_drawn 237 = .ok (.if_icmp .ge 78, 3) := by decide +kernel
theorem dL_drawn_240 : decode cL_drawn 240 = .ok (.iconst 0, 1) := by decide +kernel
theorem dL_drawn_241 : decode cL_drawn 241 = .ok (.istore 6, 2) := by decide +kernel
theorem dL_drawn_243 : decode cL_drawn 243 = .ok (.iload 6, 2) := by decide +kernel
theorem dL_drawn_245 : decode cL_drawn 245 = .ok (.aload_n 2, 1) := by decide +kernel
theorem dL_drawn_246 : decode cL_drawn 246 = .ok (.getfield 31, 3) := by decide +kernel
theorem dL_drawn_249 : decode cL_drawn 249 = .ok (.if_icmp .ge 60, 3) := by decide +kernel
theorem dL_drawn_252 : decode cL_drawn 252 = .ok (.iload 5, 2) := by decide +kernel
theorem dL_drawn_254 : decode cL_drawn 254 = .ok (.iload 6, 2) := by decide +kernel
theorem dL_drawn_256 : decode cL_drawn 256 = .ok (.if_icmp .eq 47, 3) := by decide +kernel
theorem dL_drawn_259 : decode cL_drawn 259 = .ok (.iload 4, 2) := by decide +kernel
theorem dL_drawn_261 : decode cL_drawn 261 = .ok (.iload 5, 2) := by decide +kernel
theorem dL_drawn_263 : decode cL_drawn 263 = .ok (.iload 6, 2) := by decide +kernel
theorem dL_drawn_265 : decode cL_drawn 265 = .ok (.iadd, 1) := by decide +kernel
theorem dL_drawn_266 : decode cL_drawn 266 = .ok (.ishr, 1) := by decide +kernel
theorem dL_drawn_267 : decode cL_drawn 267 = .ok (.iconst 4, 1) := by decide +kernel
theorem dL_drawn_268 : decode cL_drawn 268 = .ok (.invokestatic 27, 3) := by decide +kernel
theorem dL_drawn_271 : decode cL_drawn 271 = .ok (.ifCond .le 32, 3) := by decide +kernel
theorem dL_drawn_274 : decode cL_drawn 274 = .ok (.aload_n 2, 1) := by decide +kernel
theorem dL_drawn_275 : decode cL_drawn 275 = .ok (.getfield 38, 3) := by decide +kernel
theorem dL_drawn_278 : decode cL_drawn 278 = .ok (.iload 5, 2) := by decide +kernel
theorem dL_drawn_280 : decode cL_drawn 280 = .ok (.aaload, 1) := by decide +kernel
theorem dL_drawn_281 : decode cL_drawn 281 = .ok (.iload 6, 2) := by decide +kernel
theorem dL_drawn_283 : decode cL_drawn 283 = .ok (.aload_n 0, 1) := by decide +kernel
theorem dL_drawn_284 : decode cL_drawn 284 = .ok (.iload_n 1, 1) := by decide +kernel
theorem dL_drawn_285 : decode cL_drawn 285 = .ok (.bipush 7, 2) := by decide +kernel
theorem dL_drawn_287 : decode cL_drawn 287 = .ok (.iadd, 1) := by decide +kernel
theorem dL_drawn_288 : decode cL_drawn 288 = .ok (.iload 5, 2) := by decide +kernel
theorem dL_drawn_290 : decode cL_drawn 290 = .ok (.iadd, 1) := by decide +kernel
theorem dL_drawn_291 : decode cL_drawn 291 = .ok (.invokestatic 23, 3) := by decide +kernel
theorem dL_drawn_294 : decode cL_drawn 294 = .ok (.iload 6, 2) := by decide +kernel
theorem dL_drawn_296 : decode cL_drawn 296 = .ok (.ishr, 1) := by decide +kernel
theorem dL_drawn_297 : decode cL_drawn 297 = .ok (.bipush 12, 2) := by decide +kernel
theorem dL_drawn_299 : decode cL_drawn 299 = .ok (.invokestatic 27, 3) := by decide +kernel
theorem dL_drawn_302 : decode cL_drawn 302 = .ok (.iastore, 1) := by decide +kernel
theorem dL_drawn_303 : decode cL_drawn 303 = .ok (.iinc 6 1, 3) := by decide +kernel
theorem dL_drawn_306 : decode cL_drawn 306 = .ok (.goto (-63), 3) := by decide +kernel
theorem dL_drawn_309 : decode cL_drawn 309 = .ok (.iinc 5 1, 3) := by decide +kernel
theorem dL_drawn_312 : decode cL_drawn 312 = .ok (.goto (-81), 3) := by decide +kernel
theorem dL_drawn_315 : decode cL_drawn 315 = .ok (.iload_n 3, 1) := by decide +kernel
theorem dL_drawn_316 : decode cL_drawn 316 = .ok (.iconst 3, 1) := by decide +kernel
theorem dL_drawn_317 : decode cL_drawn 317 = .ok (.ishr, 1) := by decide +kernel
theorem dL_drawn_318 : decode cL_drawn 318 = .ok (.iconst 3, 1) := by decide +kernel
theorem dL_drawn_319 : decode cL_drawn 319 = .ok (.invokestatic 27, 3) := by decide +kernel
theorem dL_drawn_322 : decode cL_drawn 322 = .ok (.ifCond .le 101, 3) := by decide +kernel
theorem dL_drawn_325 : decode cL_drawn 325 = .ok (.aload_n 0, 1) := by decide +kernel
theorem dL_drawn_326 : decode cL_drawn 326 = .ok (.iload_n 1, 1) := by decide +kernel
theorem dL_drawn_327 : decode cL_drawn 327 = .ok (.bipush 12, 2) := by decide +kernel
theorem dL_drawn_329 : decode cL_drawn 329 = .ok (.iadd, 1) := by decide +kernel
theorem dL_drawn_330 : decode cL_drawn 330 = .ok (.invokestatic 23, 3) := by decide +kernel
theorem dL_drawn_333 : decode cL_drawn 333 = .ok (.istore 5, 2) := by decide +kernel
theorem dL_drawn_335 : decode cL_drawn 335 = .ok (.aload_n 2, 1) := by decide +kernel
theorem dL_drawn_336 : decode cL_drawn 336 = .ok (.iconst 1, 1) := by decide +kernel
theorem dL_drawn_337 : decode cL_drawn 337 = .ok (.iload 5, 2) := by decide +kernel
theorem dL_drawn_339 : decode cL_drawn 339 = .ok (.bipush 8, 2) := by decide +kernel
theorem dL_drawn_341 : decode cL_drawn 341 = .ok (.invokestatic 27, 3) := by decide +kernel
theorem dL_drawn_344 : decode cL_drawn 344 = .ok (.iadd, 1) := by decide +kernel
theorem dL_drawn_345 : decode cL_drawn 345 = .ok (.putfield 41, 3) := by decide +kernel
theorem dL_drawn_348 : decode cL_drawn 348 = .ok (.aload_n 2, 1) := by decide +kernel
theorem dL_drawn_349 : decode cL_drawn 349 = .ok (.iconst 1, 1) := by decide +kernel
theorem dL_drawn_350 : decode cL_drawn 350 = .ok (.iload 5, 2) := by decide +kernel
theorem dL_drawn_352 : decode cL_drawn 352 = .ok (.iconst 2, 1) := by decide +kernel
theorem dL_drawn_353 : decode cL_drawn 353 = .ok (.ishr, 1) := by decide +kernel
theorem dL_drawn_354 : decode cL_drawn 354 = .ok (.aload_n 2, 1) := by decide +kernel
theorem dL_drawn_355 : decode cL_drawn 355 = .ok (.getfield 41, 3) := by decide +kernel
theorem dL_drawn_358 : decode cL_drawn 358 = .ok (.invokestatic 27, 3) := by decide +kernel
theorem dL_drawn_361 : decode cL_drawn 361 = .ok (.iadd, 1) := by decide +kernel
theorem dL_drawn_362 : decode cL_drawn 362 = .ok (.putfield 44, 3) := by decide +kernel
theorem dL_drawn_365 : decode cL_drawn 365 = .ok (.aload_n 2, 1) := by decide +kernel
theorem dL_drawn_366 : decode cL_drawn 366 = .ok (.iload 5, 2) := by decide +kernel
theorem dL_drawn_368 : decode cL_drawn 368 = .ok (.iconst 4, 1) := by decide +kernel
theorem dL_drawn_369 : decode cL_drawn 369 = .ok (.ishr, 1) := by decide +kernel
theorem dL_drawn_370 : decode cL_drawn 370 = .ok (.bipush 10, 2) := by decide +kernel
theorem dL_drawn_372 : decode cL_drawn 372 = .ok (.invokestatic 27, 3) := by decide +kernel
theorem dL_drawn_375 : decode cL_drawn 375 = .ok (.putfield 47, 3) := by decide +kernel
theorem dL_drawn_378 : decode cL_drawn 378 = .ok (.aload_n 2, 1) := by decide +kernel
theorem dL_drawn_379 : decode cL_drawn 379 = .ok (.iconst 1, 1) := by decide +kernel
theorem dL_drawn_380 : decode cL_drawn 380 = .ok (.iload 5, 2) := by decide +kernel
theorem dL_drawn_382 : decode cL_drawn 382 = .ok (.bipush 6, 2) := by decide +kernel
theorem dL_drawn_384 : decode cL_drawn 384 = .ok (.ishr, 1) := by decide +kernel
theorem dL_drawn_385 : decode cL_drawn 385 = .ok (.bipush 8, 2) := by decide +kernel
theorem dL_drawn_387 : decode cL_drawn 387 = .ok (.invokestatic 27, 3) := by decide +kernel
theorem dL_drawn_390 : decode cL_drawn 390 = .ok (.iadd, 1) := by decide +kernel
theorem dL_drawn_391 : decode cL_drawn 391 = .ok (.putfield 50, 3) := by decide +kernel
theorem dL_drawn_394 : decode cL_drawn 394 = .ok (.aload_n 2, 1) := by decide +kernel
theorem dL_drawn_395 : decode cL_drawn 395 = .ok (.iload 5, 2) := by decide +kernel
theorem dL_drawn_397 : decode cL_drawn 397 = .ok (.bipush 8, 2) := by decide +kernel
theorem dL_drawn_399 : decode cL_drawn 399 = .ok (.ishr, 1) := by decide +kernel
theorem dL_drawn_400 : decode cL_drawn 400 = .ok (.bipush 40, 2) := by decide +kernel
theorem dL_drawn_402 : decode cL_drawn 402 = .ok (.invokestatic 27, 3) := by decide +kernel
theorem dL_drawn_405 : decode cL_drawn 405 = .ok (.putfield 53, 3) := by decide +kernel
theorem dL_drawn_408 : decode cL_drawn 408 = .ok (.aload_n 2, 1) := by decide +kernel
theorem dL_drawn_409 : decode cL_drawn 409 = .ok (.iconst 1, 1) := by decide +kernel
theorem dL_drawn_410 : decode cL_drawn 410 = .ok (.iload 5, 2) := by decide +kernel
theorem dL_drawn_412 : decode cL_drawn 412 = .ok (.bipush 10, 2) := by decide +kernel
theorem dL_drawn_414 : decode cL_drawn 414 = .ok (.ishr, 1) := by decide +kernel
theorem dL_drawn_415 : decode cL_drawn 415 = .ok (.iconst 4, 1) := by decide +kernel
theorem dL_drawn_416 : decode cL_drawn 416 = .ok (.invokestatic 27, 3) := by decide +kernel
theorem dL_drawn_419 : decode cL_drawn 419 = .ok (.iadd, 1) := by decide +kernel
theorem dL_drawn_420 : decode cL_drawn 420 = .ok (.putfield 56, 3) := by decide +kernel
theorem dL_drawn_423 : decode cL_drawn 423 = .ok (.aload_n 2, 1) := by decide +kernel
theorem dL_drawn_424 : decode cL_drawn 424 = .ok (.areturn, 1) := by decide +kernel
theorem dL_word_0 : decode cL_word 0 = .ok (.iconst 0, 1) := by decide +kernel
theorem dL_word_1 : decode cL_word 1 = .ok (.istore_n 3, 1) := by decide +kernel
theorem dL_word_2 : decode cL_word 2 = .ok (.iload_n 3, 1) := by decide +kernel
theorem dL_word_3 : decode cL_word 3 = .ok (.aload_n 2, 1) := by decide +kernel
theorem dL_word_4 : decode cL_word 4 = .ok (.invokevirtual 59, 3) := by decide +kernel
theorem dL_word_7 : decode cL_word 7 = .ok (.if_icmp .ge 19, 3) := by decide +kernel
theorem dL_word_10 : decode cL_word 10 = .ok (.aload_n 0, 1) := by decide +kernel
theorem dL_word_11 : decode cL_word 11 = .ok (.aload_n 1, 1) := by decide +kernel
theorem dL_word_12 : decode cL_word 12 = .ok (.aload_n 2, 1) := by decide +kernel
theorem dL_word_13 : decode cL_word 13 = .ok (.iload_n 3, 1) := by decide +kernel
theorem dL_word_14 : decode cL_word 14 = .ok (.invokevirtual 65, 3) := by decide +kernel
theorem dL_word_17 : decode cL_word 17 = .ok (.invokestatic 14, 3) := by decide +kernel
theorem dL_word_20 : decode cL_word 20 = .ok (.iinc 3 1, 3) := by decide +kernel
theorem dL_word_23 : decode cL_word 23 = .ok (.goto (-21), 3) := by decide +kernel
theorem dL_word_26 : decode cL_word 26 = .ok (.return_, 1) := by decide +kernel
theorem dL_numbers_0 : decode cL_numbers 0 = .ok (.aload_n 2, 1) := by decide +kernel
theorem dL_numbers_1 : decode cL_numbers 1 = .ok (.astore_n 3, 1) := by decide +kernel
theorem dL_numbers_2 : decode cL_numbers 2 = .ok (.aload_n 3, 1) := by decide +kernel
theorem dL_numbers_3 : decode cL_numbers 3 = .ok (.arraylength, 1) := by decide +kernel
theorem dL_numbers_4 : decode cL_numbers 4 = .ok (.istore 4, 2) := by decide +kernel
theorem dL_numbers_6 : decode cL_numbers 6 = .ok (.iconst 0, 1) := by decide +kernel
theorem dL_numbers_7 : decode cL_numbers 7 = .ok (.istore 5, 2) := by decide +kernel
theorem dL_numbers_9 : decode cL_numbers 9 = .ok (.iload 5, 2) := by decide +kernel
theorem dL_numbers_11 : decode cL_numbers 11 = .ok (.iload 4, 2) := by decide +kernel
theorem dL_numbers_13 : decode cL_numbers 13 = .ok (.if_icmp .ge 29, 3) := by decide +kernel
theorem dL_numbers_16 : decode cL_numbers 16 = .ok (.aload_n 3, 1) := by decide +kernel
theorem dL_numbers_17 : decode cL_numbers 17 = .ok (.iload 5, 2) := by decide +kernel
theorem dL_numbers_19 : decode cL_numbers 19 = .ok (.iaload, 1) := by decide +kernel
theorem dL_numbers_20 : decode cL_numbers 20 = .ok (.istore 6, 2) := by decide +kernel
theorem dL_numbers_22 : decode cL_numbers 22 = .ok (.aload_n 0, 1) := by decide +kernel
theorem dL_numbers_23 : decode cL_numbers 23 = .ok (.aload_n 1, 1) := by decide +kernel
theorem dL_numbers_24 : decode cL_numbers 24 = .ok (.bipush 32, 2) := by decide +kernel
theorem dL_numbers_26 : decode cL_numbers 26 = .ok (.invokestatic 14, 3) := by decide +kernel
theorem dL_numbers_29 : decode cL_numbers 29 = .ok (.aload_n 0, 1) := by decide +kernel
theorem dL_numbers_30 : decode cL_numbers 30 = .ok (.aload_n 1, 1) := by decide +kernel
theorem dL_numbers_31 : decode cL_numbers 31 = .ok (.iload 6, 2) := by decide +kernel
theorem dL_numbers_33 : decode cL_numbers 33 = .ok (.invokestatic 69, 3) := by decide +kernel
theorem dL_numbers_36 : decode cL_numbers 36 = .ok (.iinc 5 1, 3) := by decide +kernel
theorem dL_numbers_39 : decode cL_numbers 39 = .ok (.goto (-30), 3) := by decide +kernel
theorem dL_numbers_42 : decode cL_numbers 42 = .ok (.aload_n 0, 1) := by decide +kernel
theorem dL_numbers_43 : decode cL_numbers 43 = .ok (.aload_n 1, 1) := by decide +kernel
theorem dL_numbers_44 : decode cL_numbers 44 = .ok (.bipush 59, 2) := by decide +kernel
theorem dL_numbers_46 : decode cL_numbers 46 = .ok (.invokestatic 14, 3) := by decide +kernel
theorem dL_numbers_49 : decode cL_numbers 49 = .ok (.return_, 1) := by decide +kernel
theorem dL_tell_0 : decode cL_tell 0 = .ok (.iconst 0, 1) := by decide +kernel
theorem dL_tell_1 : decode cL_tell 1 = .ok (.istore_n 3, 1) := by decide +kernel
theorem dL_tell_2 : decode cL_tell 2 = .ok (.iload_n 3, 1) := by decide +kernel
theorem dL_tell_3 : decode cL_tell 3 = .ok (.aload_n 2, 1) := by decide +kernel
theorem dL_tell_4 : decode cL_tell 4 = .ok (.getfield 31, 3) := by decide +kernel
theorem dL_tell_7 : decode cL_tell 7 = .ok (.if_icmp .ge 27, 3) := by decide +kernel
theorem dL_tell_10 : decode cL_tell 10 = .ok (.aload_n 0, 1) := by decide +kernel
theorem dL_tell_11 : decode cL_tell 11 = .ok (.aload_n 1, 1) := by decide +kernel
theorem dL_tell_12 : decode cL_tell 12 = .ok (.ldc 72, 2) := by decide +kernel
theorem dL_tell_14 : decode cL_tell 14 = .ok (.invokestatic 73, 3) := by decide +kernel
theorem dL_tell_17 : decode cL_tell 17 = .ok (.aload_n 0, 1) := by decide +kernel
theorem dL_tell_18 : decode cL_tell 18 = .ok (.aload_n 1, 1) := by decide +kernel
theorem dL_tell_19 : decode cL_tell 19 = .ok (.aload_n 2, 1) := by decide +kernel
theorem dL_tell_20 : decode cL_tell 20 = .ok (.getfield 35, 3) := by decide +kernel
theorem dL_tell_23 : decode cL_tell 23 = .ok (.iload_n 3, 1) := by decide +kernel
theorem dL_tell_24 : decode cL_tell 24 = .ok (.aaload, 1) := by decide +kernel
theorem dL_tell_25 : decode cL_tell 25 = .ok (.invokestatic 77, 3) := by decide +kernel
theorem dL_tell_28 : decode cL_tell 28 = .ok (.iinc 3 1, 3) := by decide +kernel
theorem dL_tell_31 : decode cL_tell 31 = .ok (.goto (-29), 3) := by decide +kernel
theorem dL_tell_34 : decode cL_tell 34 = .ok (.iconst 0, 1) := by decide +kernel
theorem dL_tell_35 : decode cL_tell 35 = .ok (.istore_n 3, 1) := by decide +kernel
theorem dL_tell_36 : decode cL_tell 36 = .ok (.iload_n 3, 1) := by decide +kernel
theorem dL_tell_37 : decode cL_tell 37 = .ok (.aload_n 2, 1) := by decide +kernel
theorem dL_tell_38 : decode cL_tell 38 = .ok (.getfield 31, 3) := by decide +kernel
theorem dL_tell_41 : decode cL_tell 41 = .ok (.if_icmp .ge 78, 3) := by decide +kernel
theorem dL_tell_44 : decode cL_tell 44 = .ok (.iconst 0, 1) := by decide +kernel
theorem dL_tell_45 : decode cL_tell 45 = .ok (.istore 4, 2) := by decide +kernel
theorem dL_tell_47 : decode cL_tell 47 = .ok (.iload 4, 2) := by decide +kernel
theorem dL_tell_49 : decode cL_tell 49 = .ok (.aload_n 2, 1) := by decide +kernel
theorem dL_tell_50 : decode cL_tell 50 = .ok (.getfield 31, 3) := by decide +kernel
theorem dL_tell_53 : decode cL_tell 53 = .ok (.if_icmp .ge 60, 3) := by decide +kernel
theorem dL_tell_56 : decode cL_tell 56 = .ok (.aload_n 2, 1) := by decide +kernel
theorem dL_tell_57 : decode cL_tell 57 = .ok (.getfield 38, 3) := by decide +kernel
theorem dL_tell_60 : decode cL_tell 60 = .ok (.iload_n 3, 1) := by decide +kernel
theorem dL_tell_61 : decode cL_tell 61 = .ok (.aaload, 1) := by decide +kernel
theorem dL_tell_62 : decode cL_tell 62 = .ok (.iload 4, 2) := by decide +kernel
theorem dL_tell_64 : decode cL_tell 64 = .ok (.iaload, 1) := by decide +kernel
theorem dL_tell_65 : decode cL_tell 65 = .ok (.ifCond .ge 6, 3) := by decide +kernel
theorem dL_tell_68 : decode cL_tell 68 = .ok (.goto 39, 3) := by decide +kernel
theorem dL_tell_71 : decode cL_tell 71 = .ok (.aload_n 0, 1) := by decide +kernel
theorem dL_tell_72 : decode cL_tell 72 = .ok (.aload_n 1, 1) := by decide +kernel
theorem dL_tell_73 : decode cL_tell 73 = .ok (.ldc 81, 2) := by decide +kernel
theorem dL_tell_75 : decode cL_tell 75 = .ok (.invokestatic 73, 3) := by decide +kernel
theorem dL_tell_78 : decode cL_tell 78 = .ok (.aload_n 0, 1) := by decide +kernel
theorem dL_tell_79 : decode cL_tell 79 = .ok (.aload_n 1, 1) := by decide +kernel
theorem dL_tell_80 : decode cL_tell 80 = .ok (.iconst 3, 1) := by decide +kernel
theorem dL_tell_81 : decode cL_tell 81 = .ok (.newarray .int, 2) := by decide +kernel
theorem dL_tell_83 : decode cL_tell 83 = .ok (.dup, 1) := by decide +kernel
theorem dL_tell_84 : decode cL_tell 84 = .ok (.iconst 0, 1) := by decide +kernel
theorem dL_tell_85 : decode cL_tell 85 = .ok (.iload_n 3, 1) := by decide +kernel
theorem dL_tell_86 : decode cL_tell 86 = .ok (.iastore, 1) := by decide +kernel
theorem dL_tell_87 : decode cL_tell 87 = .ok (.dup, 1) := by decide +kernel
theorem dL_tell_88 : decode cL_tell 88 = .ok (.iconst 1, 1) := by decide +kernel
theorem dL_tell_89 : decode cL_tell 89 = .ok (.iload 4, 2) := by decide +kernel
theorem dL_tell_91 : decode cL_tell 91 = .ok (.iastore, 1) := by decide +kernel
theorem dL_tell_92 : decode cL_tell 92 = .ok (.dup, 1) := by decide +kernel
theorem dL_tell_93 : decode cL_tell 93 = .ok (.iconst 2, 1) := by decide +kernel
theorem dL_tell_94 : decode cL_tell 94 = .ok (.aload_n 2, 1) := by decide +kernel
theorem dL_tell_95 : decode cL_tell 95 = .ok (.getfield 38, 3) := by decide +kernel
theorem dL_tell_98 : decode cL_tell 98 = .ok (.iload_n 3, 1) := by decide +kernel
theorem dL_tell_99 : decode cL_tell 99 = .ok (.aaload, 1) := by decide +kernel
theorem dL_tell_100 : decode cL_tell 100 = .ok (.iload 4, 2) := by decide +kernel
theorem dL_tell_102 : decode cL_tell 102 = .ok (.iaload, 1) := by decide +kernel
theorem dL_tell_103 : decode cL_tell 103 = .ok (.iastore, 1) := by decide +kernel
theorem dL_tell_104 : decode cL_tell 104 = .ok (.invokestatic 77, 3) := by decide +kernel
theorem dL_tell_107 : decode cL_tell 107 = .ok (.iinc 4 1, 3) := by decide +kernel
theorem dL_tell_110 : decode cL_tell 110 = .ok (.goto (-63), 3) := by decide +kernel
theorem dL_tell_113 : decode cL_tell 113 = .ok (.iinc 3 1, 3) := by decide +kernel
theorem dL_tell_116 : decode cL_tell 116 = .ok (.goto (-80), 3) := by decide +kernel
theorem dL_tell_119 : decode cL_tell 119 = .ok (.aload_n 0, 1) := by decide +kernel
theorem dL_tell_120 : decode cL_tell 120 = .ok (.aload_n 1, 1) := by decide +kernel
theorem dL_tell_121 : decode cL_tell 121 = .ok (.ldc 83, 2) := by decide +kernel
theorem dL_tell_123 : decode cL_tell 123 = .ok (.invokestatic 73, 3) := by decide +kernel
theorem dL_tell_126 : decode cL_tell 126 = .ok (.aload_n 0, 1) := by decide +kernel
theorem dL_tell_127 : decode cL_tell 127 = .ok (.aload_n 1, 1) := by decide +kernel
theorem dL_tell_128 : decode cL_tell 128 = .ok (.bipush 6, 2) := by decide +kernel
theorem dL_tell_130 : decode cL_tell 130 = .ok (.newarray .int, 2) := by decide +kernel
theorem dL_tell_132 : decode cL_tell 132 = .ok (.dup, 1) := by decide +kernel
theorem dL_tell_133 : decode cL_tell 133 = .ok (.iconst 0, 1) := by decide +kernel
theorem dL_tell_134 : decode cL_tell 134 = .ok (.aload_n 2, 1) := by decide +kernel
theorem dL_tell_135 : decode cL_tell 135 = .ok (.getfield 41, 3) := by decide +kernel
theorem dL_tell_138 : decode cL_tell 138 = .ok (.iastore, 1) := by decide +kernel
theorem dL_tell_139 : decode cL_tell 139 = .ok (.dup, 1) := by decide +kernel
theorem dL_tell_140 : decode cL_tell 140 = .ok (.iconst 1, 1) := by decide +kernel
theorem dL_tell_141 : decode cL_tell 141 = .ok (.aload_n 2, 1) := by decide +kernel
theorem dL_tell_142 : decode cL_tell 142 = .ok (.getfield 44, 3) := by decide +kernel
theorem dL_tell_145 : decode cL_tell 145 = .ok (.iastore, 1) := by decide +kernel
theorem dL_tell_146 : decode cL_tell 146 = .ok (.dup, 1) := by decide +kernel
theorem dL_tell_147 : decode cL_tell 147 = .ok (.iconst 2, 1) := by decide +kernel
theorem dL_tell_148 : decode cL_tell 148 = .ok (.aload_n 2, 1) := by decide +kernel
theorem dL_tell_149 : decode cL_tell 149 = .ok (.getfield 47, 3) := by decide +kernel
theorem dL_tell_152 : decode cL_tell 152 = .ok (.iastore, 1) := by decide +kernel
theorem dL_tell_153 : decode cL_tell 153 = .ok (.dup, 1) := by decide +kernel
theorem dL_tell_154 : decode cL_tell 154 = .ok (.iconst 3, 1) := by decide +kernel
theorem dL_tell_155 : decode cL_tell 155 = .ok (.aload_n 2, 1) := by decide +kernel
theorem dL_tell_156 : decode cL_tell 156 = .ok (.getfield 50, 3) := by decide +kernel
theorem dL_tell_159 : decode cL_tell 159 = .ok (.iastore, 1) := by decide +kernel
theorem dL_tell_160 : decode cL_tell 160 = .ok (.dup, 1) := by decide +kernel
theorem dL_tell_161 : decode cL_tell 161 = .ok (.iconst 4, 1) := by decide +kernel
theorem dL_tell_162 : decode cL_tell 162 = .ok (.aload_n 2, 1) := by decide +kernel
theorem dL_tell_163 : decode cL_tell 163 = .ok (.getfield 53, 3) := by decide +kernel
theorem dL_tell_166 : decode cL_tell 166 = .ok (.iastore, 1) := by decide +kernel
theorem dL_tell_167 : decode cL_tell 167 = .ok (.dup, 1) := by decide +kernel
theorem dL_tell_168 : decode cL_tell 168 = .ok (.iconst 5, 1) := by decide +kernel
theorem dL_tell_169 : decode cL_tell 169 = .ok (.aload_n 2, 1) := by decide +kernel
theorem dL_tell_170 : decode cL_tell 170 = .ok (.getfield 56, 3) := by decide +kernel
theorem dL_tell_173 : decode cL_tell 173 = .ok (.iastore, 1) := by decide +kernel
theorem dL_tell_174 : decode cL_tell 174 = .ok (.invokestatic 77, 3) := by decide +kernel
theorem dL_tell_177 : decode cL_tell 177 = .ok (.aload_n 1, 1) := by decide +kernel
theorem dL_tell_178 : decode cL_tell 178 = .ok (.iconst 5, 1) := by decide +kernel
theorem dL_tell_179 : decode cL_tell 179 = .ok (.iaload, 1) := by decide +kernel
theorem dL_tell_180 : decode cL_tell 180 = .ok (.sipush 690, 3) := by decide +kernel
theorem dL_tell_183 : decode cL_tell 183 = .ok (.if_icmp .le 6, 3) := by decide +kernel
theorem dL_tell_186 : decode cL_tell 186 = .ok (.bipush (-99), 2) := by decide +kernel
theorem dL_tell_188 : decode cL_tell 188 = .ok (.ireturn, 1) := by decide +kernel
theorem dL_tell_189 : decode cL_tell 189 = .ok (.aload_n 0, 1) := by decide +kernel
theorem dL_tell_190 : decode cL_tell 190 = .ok (.aload_n 0, 1) := by decide +kernel
theorem dL_tell_191 : decode cL_tell 191 = .ok (.aload_n 1, 1) := by decide +kernel
theorem dL_tell_192 : decode cL_tell 192 = .ok (.invokestatic 85, 3) := by decide +kernel
theorem dL_tell_195 : decode cL_tell 195 = .ok (.invokevirtual 89, 3) := by decide +kernel
theorem dL_tell_198 : decode cL_tell 198 = .ok (.ireturn, 1) := by decide +kernel
theorem dL_act_0 : decode cL_act 0 = .ok (.iload_n 2, 1) := by decide +kernel
theorem dL_act_1 : decode cL_act 1 = .ok (.bipush 9, 2) := by decide +kernel
theorem dL_act_3 : decode cL_act 3 = .ok (.invokestatic 27, 3) := by decide +kernel
theorem dL_act_6 : decode cL_act 6 = .ok (.istore_n 3, 1) := by decide +kernel
theorem dL_act_7 : decode cL_act 7 = .ok (.iload_n 2, 1) := by decide +kernel
theorem dL_act_8 : decode cL_act 8 = .ok (.iconst 4, 1) := by decide +kernel
theorem dL_act_9 : decode cL_act 9 = .ok (.ishr, 1) := by decide +kernel
theorem dL_act_10 : decode cL_act 10 = .ok (.istore 4, 2) := by decide +kernel
theorem dL_act_12 : decode cL_act 12 = .ok (.iload_n 3, 1) := by decide +kernel
theorem dL_act_13 : decode cL_act 13 = .ok (.iconst 2, 1) := by decide +kernel
theorem dL_act_14 : decode cL_act 14 = .ok (.if_icmp .lt 10, 3) := by decide +kernel
theorem dL_act_17 : decode cL_act 17 = .ok (.aload_n 1, 1) := by decide +kernel
theorem dL_act_18 : decode cL_act 18 = .ok (.getfield 105, 3) := by decide +kernel
theorem dL_act_21 : decode cL_act 21 = .ok (.ifCond .ne 164, 3) := by decide +kernel
theorem dL_act_24 : decode cL_act 24 = .ok (.new 162, 3) := by decide +kernel
theorem dL_act_27 : decode cL_act 27 = .ok (.dup, 1) := by decide +kernel
theorem dL_act_28 : decode cL_act 28 = .ok (.invokespecial 216, 3) := by decide +kernel
theorem dL_act_31 : decode cL_act 31 = .ok (.astore 5, 2) := by decide +kernel
theorem dL_act_33 : decode cL_act 33 = .ok (.aload 5, 2) := by decide +kernel
theorem dL_act_35 : decode cL_act 35 = .ok (.iload 4, 2) := by decide +kernel
theorem dL_act_37 : decode cL_act 37 = .ok (.sipush 1000, 3) := by decide +kernel
theorem dL_act_40 : decode cL_act 40 = .ok (.invokestatic 27, 3) := by decide +kernel
theorem dL_act_43 : decode cL_act 43 = .ok (.putfield 161, 3) := by decide +kernel
theorem dL_act_46 : decode cL_act 46 = .ok (.aload 5, 2) := by decide +kernel
theorem dL_act_48 : decode cL_act 48 = .ok (.iload 4, 2) := by decide +kernel
theorem dL_act_50 : decode cL_act 50 = .ok (.iconst 3, 1) := by decide +kernel
theorem dL_act_51 : decode cL_act 51 = .ok (.ishr, 1) := by decide +kernel
theorem dL_act_52 : decode cL_act 52 = .ok (.sipush 1000, 3) := by decide +kernel
theorem dL_act_55 : decode cL_act 55 = .ok (.invokestatic 27, 3) := by decide +kernel
theorem dL_act_58 : decode cL_act 58 = .ok (.putfield 168, 3) := by decide +kernel
theorem dL_act_61 : decode cL_act 61 = .ok (.aload 5, 2) := by decide +kernel
theorem dL_act_63 : decode cL_act 63 = .ok (.iload 4, 2) := by decide +kernel
theorem dL_act_65 : decode cL_act 65 = .ok (.iconst 5, 1) := by decide +kernel
theorem dL_act_66 : decode cL_act 66 = .ok (.ishr, 1) := by decide +kernel
theorem dL_act_67 : decode cL_act 67 = .ok (.sipush 199, 3) := by decide +kernel
theorem dL_act_70 : decode cL_act 70 = .ok (.invokestatic 27, 3) := by decide +kernel
theorem dL_act_73 : decode cL_act 73 = .ok (.bipush 99, 2) := by decide +kernel
theorem dL_act_75 : decode cL_act 75 = .ok (.isub, 1) := by decide +kernel
theorem dL_act_76 : decode cL_act 76 = .ok (.putfield 217, 3) := by decide +kernel
theorem dL_act_79 : decode cL_act 79 = .ok (.aload 5, 2) := by decide +kernel
theorem dL_act_81 : decode cL_act 81 = .ok (.iload 4, 2) := by decide +kernel
theorem dL_act_83 : decode cL_act 83 = .ok (.bipush 7, 2) := by decide +kernel
theorem dL_act_85 : decode cL_act 85 = .ok (.ishr, 1) := by decide +kernel
theorem dL_act_86 : decode cL_act 86 = .ok (.sipush 199, 3) := by decide +kernel
theorem dL_act_89 : decode cL_act 89 = .ok (.invokestatic 27, 3) := by decide +kernel
theorem dL_act_92 : decode cL_act 92 = .ok (.bipush 99, 2) := by decide +kernel
theorem dL_act_94 : decode cL_act 94 = .ok (.isub, 1) := by decide +kernel
theorem dL_act_95 : decode cL_act 95 = .ok (.putfield 220, 3) := by decide +kernel
theorem dL_act_98 : decode cL_act 98 = .ok (.aload_n 1, 1) := by decide +kernel
theorem dL_act_99 : decode cL_act 99 = .ok (.getfield 105, 3) := by decide +kernel
theorem dL_act_102 : decode cL_act 102 = .ok (.bipush 12, 2) := by decide +kernel
theorem dL_act_104 : decode cL_act 104 = .ok (.if_icmp .ne 8, 3) := by decide +kernel
theorem dL_act_107 : decode cL_act 107 = .ok (.bipush (-2), 2) := by decide +kernel
theorem dL_act_109 : decode cL_act 109 = .ok (.goto 7, 3) := by decide +kernel
theorem dL_act_112 : decode cL_act 112 = .ok (.aload_n 1, 1) := by decide +kernel
theorem dL_act_113 : decode cL_act 113 = .ok (.getfield 105, 3) := by decide +kernel
theorem dL_act_116 : decode cL_act 116 = .ok (.istore 6, 2) := by decide +kernel
theorem dL_act_118 : decode cL_act 118 = .ok (.iload 6, 2) := by decide +kernel
theorem dL_act_120 : decode cL_act 120 = .ok (.ifCond .lt 21, 3) := by decide +kernel
theorem dL_act_123 : decode cL_act 123 = .ok (.aload_n 1, 1) := by decide +kernel
theorem dL_act_124 : decode cL_act 124 = .ok (.getfield 154, 3) := by decide +kernel
theorem dL_act_127 : decode cL_act 127 = .ok (.aload_n 1, 1) := by decide +kernel
theorem dL_act_128 : decode cL_act 128 = .ok (.dup, 1) := by decide +kernel
theorem dL_act_129 : decode cL_act 129 = .ok (.getfield 105, 3) := by decide +kernel
theorem dL_act_132 : decode cL_act 132 = .ok (.dup_x1, 1) := by decide +kernel
theorem dL_act_133 : decode cL_act 133 = .ok (.iconst 1, 1) := by decide +kernel
theorem dL_act_134 : decode cL_act 134 = .ok (.iadd, 1) := by decide +kernel
theorem dL_act_135 : decode cL_act 135 = .ok (.putfield 105, 3) := by decide +kernel
theorem dL_act_138 : decode cL_act 138 = .ok (.aload 5, 2) := by decide +kernel
theorem dL_act_140 : decode cL_act 140 = .ok (.aastore, 1) := by decide +kernel
theorem dL_act_141 : decode cL_act 141 = .ok (.aload_n 0, 1) := by decide +kernel
theorem dL_act_142 : decode cL_act 142 = .ok (.aload 5, 2) := by decide +kernel
theorem dL_act_144 : decode cL_act 144 = .ok (.getfield 161, 3) := by decide +kernel
theorem dL_act_147 : decode cL_act 147 = .ok (.aload 5, 2) := by decide +kernel
theorem dL_act_149 : decode cL_act 149 = .ok (.getfield 168, 3) := by decide +kernel
theorem dL_act_152 : decode cL_act 152 = .ok (.aload 5, 2) := by decide +kernel
theorem dL_act_154 : decode cL_act 154 = .ok (.getfield 217, 3) := by decide +kernel
theorem dL_act_157 : decode cL_act 157 = .ok (.aload 5, 2) := by decide +kernel
theorem dL_act_159 : decode cL_act 159 = .ok (.getfield 220, 3) := by decide +kernel
theorem dL_act_162 : decode cL_act 162 = .ok (.invokevirtual 223, 3) := by decide +kernel
theorem dL_act_165 : decode cL_act 165 = .ok (.iload 6, 2) := by decide +kernel
theorem dL_act_167 : decode cL_act 167 = .ok (.if_icmp .eq 7, 3) := by decide +kernel
theorem dL_act_170 : decode cL_act 170 = .ok (.iconst (-1), 1) := by decide +kernel
theorem dL_act_171 : decode cL_act 171 = .ok (.goto 13, 3) := by decide +kernel
theorem dL_act_174 : decode cL_act 174 = .ok (.iload 6, 2) := by decide +kernel
theorem dL_act_176 : decode cL_act 176 = .ok (.ifCond .ge 7, 3) := by decide +kernel
theorem dL_act_179 : decode cL_act 179 = .ok (.iconst 0, 1) := by decide +kernel
theorem dL_act_180 : decode cL_act 180 = .ok (.goto 4, 3) := by decide +kernel
theorem dL_act_183 : decode cL_act 183 = .ok (.iconst 1, 1) := by decide +kernel
theorem dL_act_184 : decode cL_act 184 = .ok (.ireturn, 1) := by decide +kernel
theorem dL_act_185 : decode cL_act 185 = .ok (.iload 4, 2) := by decide +kernel
theorem dL_act_187 : decode cL_act 187 = .ok (.aload_n 1, 1) := by decide +kernel
theorem dL_act_188 : decode cL_act 188 = .ok (.getfield 105, 3) := by decide +kernel
theorem dL_act_191 : decode cL_act 191 = .ok (.invokestatic 27, 3) := by decide +kernel
theorem dL_act_194 : decode cL_act 194 = .ok (.istore 5, 2) := by decide +kernel
theorem dL_act_196 : decode cL_act 196 = .ok (.aload_n 1, 1) := by decide +kernel
theorem dL_act_197 : decode cL_act 197 = .ok (.getfield 154, 3) := by decide +kernel
theorem dL_act_200 : decode cL_act 200 = .ok (.iload 5, 2) := by decide +kernel
theorem dL_act_202 : decode cL_act 202 = .ok (.aaload, 1) := by decide +kernel
theorem dL_act_203 : decode cL_act 203 = .ok (.astore 6, 2) := by decide +kernel
theorem dL_act_205 : decode cL_act 205 = .ok (.iload_n 3, 1) := by decide +kernel
theorem dL_act_206 : decode cL_act 206 = .ok (.bipush 6, 2) := by decide +kernel
theorem dL_act_208 : decode cL_act 208 = .ok (.if_icmp .ge 63, 3) := by decide +kernel
theorem dL_act_211 : decode cL_act 211 = .ok (.iconst 1, 1) := by decide +kernel
theorem dL_act_212 : decode cL_act 212 = .ok (.iload 4, 2) := by decide +kernel
theorem dL_act_214 : decode cL_act 214 = .ok (.iconst 4, 1) := by decide +kernel
theorem dL_act_215 : decode cL_act 215 = .ok (.ishr, 1) := by decide +kernel
theorem dL_act_216 : decode cL_act 216 = .ok (.bipush 30, 2) := by decide +kernel
theorem dL_act_218 : decode cL_act 218 = .ok (.invokestatic 27, 3) := by decide +kernel
theorem dL_act_221 : decode cL_act 221 = .ok (.iadd, 1) := by decide +kernel
theorem dL_act_222 : decode cL_act 222 = .ok (.istore 7, 2) := by decide +kernel
theorem dL_act_224 : decode cL_act 224 = .ok (.aload_n 1, 1) := by decide +kernel
theorem dL_act_225 : decode cL_act 225 = .ok (.iload 5, 2) := by decide +kernel
theorem dL_act_227 : decode cL_act 227 = .ok (.iload 7, 2) := by decide +kernel
theorem dL_act_229 : decode cL_act 229 = .ok (.invokevirtual 227, 3) := by decide +kernel
theorem dL_act_232 : decode cL_act 232 = .ok (.istore 8, 2) := by decide +kernel
theorem dL_act_234 : decode cL_act 234 = .ok (.aload_n 0, 1) := by decide +kernel
theorem dL_act_235 : decode cL_act 235 = .ok (.iload 5, 2) := by decide +kernel
theorem dL_act_237 : decode cL_act 237 = .ok (.iload 7, 2) := by decide +kernel
theorem dL_act_239 : decode cL_act 239 = .ok (.invokevirtual 230, 3) := by decide +kernel
theorem dL_act_242 : decode cL_act 242 = .ok (.iload 8, 2) := by decide +kernel
theorem dL_act_244 : decode cL_act 244 = .ok (.if_icmp .eq 7, 3) := by decide +kernel
theorem dL_act_247 : decode cL_act 247 = .ok (.iconst (-1), 1) := by decide +kernel
theorem dL_act_248 : decode cL_act 248 = .ok (.goto 22, 3) := by decide +kernel
theorem dL_act_251 : decode cL_act 251 = .ok (.iload 8, 2) := by decide +kernel
theorem dL_act_253 : decode cL_act 253 = .ok (.bipush (-2), 2) := by decide +kernel
theorem dL_act_255 : decode cL_act 255 = .ok (.if_icmp .eq 10, 3) := by decide +kernel
theorem dL_act_258 : decode cL_act 258 = .ok (.iload 8, 2) := by decide +kernel
theorem dL_act_260 : decode cL_act 260 = .ok (.bipush (-4), 2) := by decide +kernel
theorem dL_act_262 : decode cL_act 262 = .ok (.if_icmp .ne 7, 3) := by decide +kernel
theorem dL_act_265 : decode cL_act 265 = .ok (.iconst 0, 1) := by decide +kernel
theorem dL_act_266 : decode cL_act 266 = .ok (.goto 4, 3) := by decide +kernel
theorem dL_act_269 : decode cL_act 269 = .ok (.iconst 1, 1) := by decide +kernel
theorem dL_act_270 : decode cL_act 270 = .ok (.ireturn, 1) := by decide +kernel
theorem dL_act_271 : decode cL_act 271 = .ok (.iload_n 3, 1) := by decide +kernel
theorem dL_act_272 : decode cL_act 272 = .ok (.bipush 6, 2) := by decide +kernel
theorem dL_act_274 : decode cL_act 274 = .ok (.if_icmp .ne 59, 3) := by decide +kernel
theorem dL_act_277 : decode cL_act 277 = .ok (.aload 6, 2) := by decide +kernel
theorem dL_act_279 : decode cL_act 279 = .ok (.getfield 173, 3) := by decide +kernel
theorem dL_act_282 : decode cL_act 282 = .ok (.ifCond .ne 8, 3) := by decide +kernel
theorem dL_act_285 : decode cL_act 285 = .ok (.bipush (-2), 2) := by decide +kernel
theorem dL_act_287 : decode cL_act 287 = .ok (.goto 8, 3) := by decide +kernel
theorem dL_act_290 : decode cL_act 290 = .ok (.aload 6, 2) := by decide +kernel
theorem dL_act_292 : decode cL_act 292 = .ok (.getfield 173, 3) := by decide +kernel
theorem dL_act_295 : decode cL_act 295 = .ok (.istore 7, 2) := by decide +kernel
theorem dL_act_297 : decode cL_act 297 = .ok (.iload 7, 2) := by decide +kernel
theorem dL_act_299 : decode cL_act 299 = .ok (.ifCond .le 8, 3) := by decide +kernel
theorem dL_act_302 : decode cL_act 302 = .ok (.aload 6, 2) := by decide +kernel
theorem dL_act_304 : decode cL_act 304 = .ok (.invokevirtual 231, 3) := by decide +kernel
theorem dL_act_307 : decode cL_act 307 = .ok (.aload_n 0, 1) := by decide +kernel
theorem dL_act_308 : decode cL_act 308 = .ok (.iload 5, 2) := by decide +kernel
theorem dL_act_310 : decode cL_act 310 = .ok (.invokevirtual 234, 3) := by decide +kernel
theorem dL_act_313 : decode cL_act 313 = .ok (.iload 7, 2) := by decide +kernel
theorem dL_act_315 : decode cL_act 315 = .ok (.if_icmp .eq 7, 3) := by decide +kernel
theorem dL_act_318 : decode cL_act 318 = .ok (.iconst (-1), 1) := by decide +kernel
theorem dL_act_319 : decode cL_act 319 = .ok (.goto 13, 3) := by decide +kernel
theorem dL_act_322 : decode cL_act 322 = .ok (.iload 7, 2) := by decide +kernel
theorem dL_act_324 : decode cL_act 324 = .ok (.ifCond .ge 7, 3) := by decide +kernel
theorem dL_act_327 : decode cL_act 327 = .ok (.iconst 0, 1) := by decide +kernel
theorem dL_act_328 : decode cL_act 328 = .ok (.goto 4, 3) := by decide +kernel
theorem dL_act_331 : decode cL_act 331 = .ok (.iconst 1, 1) := by decide +kernel
theorem dL_act_332 : decode cL_act 332 = .ok (.ireturn, 1) := by decide +kernel
theorem dL_act_333 : decode cL_act 333 = .ok (.iload_n 3, 1) := by decide +kernel
theorem dL_act_334 : decode cL_act 334 = .ok (.bipush 7, 2) := by decide +kernel
theorem dL_act_336 : decode cL_act 336 = .ok (.if_icmp .ne 68, 3) := by decide +kernel
theorem dL_act_339 : decode cL_act 339 = .ok (.aload 6, 2) := by decide +kernel
theorem dL_act_341 : decode cL_act 341 = .ok (.iload 4, 2) := by decide +kernel
theorem dL_act_343 : decode cL_act 343 = .ok (.iconst 4, 1) := by decide +kernel
theorem dL_act_344 : decode cL_act 344 = .ok (.ishr, 1) := by decide +kernel
theorem dL_act_345 : decode cL_act 345 = .ok (.bipush 99, 2) := by decide +kernel
theorem dL_act_347 : decode cL_act 347 = .ok (.invokestatic 27, 3) := by decide +kernel
theorem dL_act_350 : decode cL_act 350 = .ok (.bipush 49, 2) := by decide +kernel
theorem dL_act_352 : decode cL_act 352 = .ok (.isub, 1) := by decide +kernel
theorem dL_act_353 : decode cL_act 353 = .ok (.putfield 217, 3) := by decide +kernel
theorem dL_act_356 : decode cL_act 356 = .ok (.aload 6, 2) := by decide +kernel
theorem dL_act_358 : decode cL_act 358 = .ok (.iload 4, 2) := by decide +kernel
theorem dL_act_360 : decode cL_act 360 = .ok (.bipush 6, 2) := by decide +kernel
theorem dL_act_362 : decode cL_act 362 = .ok (.ishr, 1) := by decide +kernel
theorem dL_act_363 : decode cL_act 363 = .ok (.bipush 99, 2) := by decide +kernel
theorem dL_act_365 : decode cL_act 365 = .ok (.invokestatic 27, 3) := by decide +kernel
theorem dL_act_368 : decode cL_act 368 = .ok (.bipush 49, 2) := by decide +kernel
theorem dL_act_370 : decode cL_act 370 = .ok (.isub, 1) := by decide +kernel
theorem dL_act_371 : decode cL_act 371 = .ok (.putfield 220, 3) := by decide +kernel
theorem dL_act_374 : decode cL_act 374 = .ok (.aload_n 0, 1) := by decide +kernel
theorem dL_act_375 : decode cL_act 375 = .ok (.iload 5, 2) := by decide +kernel
theorem dL_act_377 : decode cL_act 377 = .ok (.aload 6, 2) := by decide +kernel
theorem dL_act_379 : decode cL_act 379 = .ok (.getfield 217, 3) := by decide +kernel
theorem dL_act_382 : decode cL_act 382 = .ok (.aload 6, 2) := by decide +kernel
theorem dL_act_384 : decode cL_act 384 = .ok (.getfield 220, 3) := by decide +kernel
theorem dL_act_387 : decode cL_act 387 = .ok (.invokevirtual 237, 3) := by decide +kernel
theorem dL_act_390 : decode cL_act 390 = .ok (.aload 6, 2) := by decide +kernel
theorem dL_act_392 : decode cL_act 392 = .ok (.getfield 173, 3) := by decide +kernel
theorem dL_act_395 : decode cL_act 395 = .ok (.if_icmp .eq 7, 3) := by decide +kernel
theorem dL_act_398 : decode cL_act 398 = .ok (.iconst (-1), 1) := by decide +kernel
theorem dL_act_399 : decode cL_act 399 = .ok (.goto 4, 3) := by decide +kernel
theorem dL_act_402 : decode cL_act 402 = .ok (.iconst 1, 1) := by decide +kernel
theorem dL_act_403 : decode cL_act 403 = .ok (.ireturn, 1) := by decide +kernel
theorem dL_act_404 : decode cL_act 404 = .ok (.iload 4, 2) := by decide +kernel
theorem dL_act_406 : decode cL_act 406 = .ok (.aload_n 1, 1) := by decide +kernel
theorem dL_act_407 : decode cL_act 407 = .ok (.getfield 31, 3) := by decide +kernel
theorem dL_act_410 : decode cL_act 410 = .ok (.invokestatic 27, 3) := by decide +kernel
theorem dL_act_413 : decode cL_act 413 = .ok (.istore 7, 2) := by decide +kernel
theorem dL_act_415 : decode cL_act 415 = .ok (.iload 4, 2) := by decide +kernel
theorem dL_act_417 : decode cL_act 417 = .ok (.iconst 3, 1) := by decide +kernel
theorem dL_act_418 : decode cL_act 418 = .ok (.ishr, 1) := by decide +kernel
theorem dL_act_419 : decode cL_act 419 = .ok (.aload_n 1, 1) := by decide +kernel
theorem dL_act_420 : decode cL_act 420 = .ok (.getfield 31, 3) := by decide +kernel
theorem dL_act_423 : decode cL_act 423 = .ok (.invokestatic 27, 3) := by decide +kernel
theorem dL_act_426 : decode cL_act 426 = .ok (.istore 8, 2) := by decide +kernel
theorem dL_act_428 : decode cL_act 428 = .ok (.iload 4, 2) := by decide +kernel
theorem dL_act_430 : decode cL_act 430 = .ok (.iconst 5, 1) := by decide +kernel
theorem dL_act_431 : decode cL_act 431 = .ok (.ishr, 1) := by decide +kernel
theorem dL_act_432 : decode cL_act 432 = .ok (.bipush 31, 2) := by decide +kernel
theorem dL_act_434 : decode cL_act 434 = .ok (.invokestatic 27, 3) := by decide +kernel
theorem dL_act_437 : decode cL_act 437 = .ok (.istore 9, 2) := by decide +kernel
theorem dL_act_439 : decode cL_act 439 = .ok (.aload_n 1, 1) := by decide +kernel
theorem dL_act_440 : decode cL_act 440 = .ok (.getfield 38, 3) := by decide +kernel
theorem dL_act_443 : decode cL_act 443 = .ok (.iload 7, 2) := by decide +kernel
theorem dL_act_445 : decode cL_act 445 = .ok (.aaload, 1) := by decide +kernel
theorem dL_act_446 : decode cL_act 446 = .ok (.iload 8, 2) := by decide +kernel
theorem dL_act_448 : decode cL_act 448 = .ok (.iaload, 1) := by decide +kernel
theorem dL_act_449 : decode cL_act 449 = .ok (.ifCond .ge 8, 3) := by decide +kernel
theorem dL_act_452 : decode cL_act 452 = .ok (.bipush (-2), 2) := by decide +kernel
theorem dL_act_454 : decode cL_act 454 = .ok (.goto 13, 3) := by decide +kernel
theorem dL_act_457 : decode cL_act 457 = .ok (.aload_n 1, 1) := by decide +kernel
theorem dL_act_458 : decode cL_act 458 = .ok (.getfield 38, 3) := by decide +kernel
theorem dL_act_461 : decode cL_act 461 = .ok (.iload 7, 2) := by decide +kernel
theorem dL_act_463 : decode cL_act 463 = .ok (.aaload, 1) := by decide +kernel
theorem dL_act_464 : decode cL_act 464 = .ok (.iload 8, 2) := by decide +kernel
theorem dL_act_466 : decode cL_act 466 = .ok (.iaload, 1) := by decide +kernel
theorem dL_act_467 : decode cL_act 467 = .ok (.istore 10, 2) := by decide +kernel
theorem dL_act_469 : decode cL_act 469 = .ok (.iload 10, 2) := by decide +kernel
theorem dL_act_471 : decode cL_act 471 = .ok (.ifCond .lt 15, 3) := by decide +kernel
theorem dL_act_474 : decode cL_act 474 = .ok (.aload_n 1, 1) := by decide +kernel
theorem dL_act_475 : decode cL_act 475 = .ok (.getfield 38, 3) := by decide +kernel
theorem dL_act_478 : decode cL_act 478 = .ok (.iload 7, 2) := by decide +kernel
theorem dL_act_480 : decode cL_act 480 = .ok (.aaload, 1) := by decide +kernel
theorem dL_act_481 : decode cL_act 481 = .ok (.iload 8, 2) := by decide +kernel
theorem dL_act_483 : decode cL_act 483 = .ok (.iload 9, 2) := by decide +kernel
theorem dL_act_485 : decode cL_act 485 = .ok (.iastore, 1) := by decide +kernel
theorem dL_act_486 : decode cL_act 486 = .ok (.aload_n 0, 1) := by decide +kernel
theorem dL_act_487 : decode cL_act 487 = .ok (.iload 7, 2) := by decide +kernel
theorem dL_act_489 : decode cL_act 489 = .ok (.iload 8, 2) := by decide +kernel
theorem dL_act_491 : decode cL_act 491 = .ok (.iload 9, 2) := by decide +kernel
theorem dL_act_493 : decode cL_act 493 = .ok (.invokevirtual 241, 3) := by decide +kernel
theorem dL_act_496 : decode cL_act 496 = .ok (.iload 10, 2) := by decide +kernel
theorem dL_act_498 : decode cL_act 498 = .ok (.if_icmp .eq 7, 3) := by decide +kernel
theorem dL_act_501 : decode cL_act 501 = .ok (.iconst (-1), 1) := by decide +kernel
theorem dL_act_502 : decode cL_act 502 = .ok (.goto 13, 3) := by decide +kernel
theorem dL_act_505 : decode cL_act 505 = .ok (.iload 10, 2) := by decide +kernel
theorem dL_act_507 : decode cL_act 507 = .ok (.ifCond .ge 7, 3) := by decide +kernel
theorem dL_act_510 : decode cL_act 510 = .ok (.iconst 0, 1) := by decide +kernel
theorem dL_act_511 : decode cL_act 511 = .ok (.goto 4, 3) := by decide +kernel
theorem dL_act_514 : decode cL_act 514 = .ok (.iconst 1, 1) := by decide +kernel
theorem dL_act_515 : decode cL_act 515 = .ok (.ireturn, 1) := by decide +kernel
theorem dL_all_0 : decode cL_all 0 = .ok (.aload_n 0, 1) := by decide +kernel
theorem dL_all_1 : decode cL_all 1 = .ok (.invokevirtual 108, 3) := by decide +kernel
theorem dL_all_4 : decode cL_all 4 = .ok (.bipush 31, 2) := by decide +kernel
theorem dL_all_6 : decode cL_all 6 = .ok (.aload_n 0, 1) := by decide +kernel
theorem dL_all_7 : decode cL_all 7 = .ok (.invokevirtual 102, 3) := by decide +kernel
theorem dL_all_10 : decode cL_all 10 = .ok (.imul, 1) := by decide +kernel
theorem dL_all_11 : decode cL_all 11 = .ok (.iadd, 1) := by decide +kernel
theorem dL_all_12 : decode cL_all 12 = .ok (.istore_n 2, 1) := by decide +kernel
theorem dL_all_13 : decode cL_all 13 = .ok (.iconst 0, 1) := by decide +kernel
theorem dL_all_14 : decode cL_all 14 = .ok (.istore_n 3, 1) := by decide +kernel
theorem dL_all_15 : decode cL_all 15 = .ok (.iload_n 3, 1) := by decide +kernel
theorem dL_all_16 : decode cL_all 16 = .ok (.bipush 8, 2) := by decide +kernel
theorem dL_all_18 : decode cL_all 18 = .ok (.if_icmp .ge 20, 3) := by decide +kernel
theorem dL_all_21 : decode cL_all 21 = .ok (.bipush 31, 2) := by decide +kernel
theorem dL_all_23 : decode cL_all 23 = .ok (.iload_n 2, 1) := by decide +kernel
theorem dL_all_24 : decode cL_all 24 = .ok (.imul, 1) := by decide +kernel
theorem dL_all_25 : decode cL_all 25 = .ok (.aload_n 0, 1) := by decide +kernel
theorem dL_all_26 : decode cL_all 26 = .ok (.iload_n 3, 1) := by decide +kernel
theorem dL_all_27 : decode cL_all 27 = .ok (.invokevirtual 113, 3) := by decide +kernel
theorem dL_all_30 : decode cL_all 30 = .ok (.iadd, 1) := by decide +kernel
theorem dL_all_31 : decode cL_all 31 = .ok (.istore_n 2, 1) := by decide +kernel
theorem dL_all_32 : decode cL_all 32 = .ok (.iinc 3 1, 3) := by decide +kernel
theorem dL_all_35 : decode cL_all 35 = .ok (.goto (-20), 3) := by decide +kernel
theorem dL_all_38 : decode cL_all 38 = .ok (.iconst 0, 1) := by decide +kernel
theorem dL_all_39 : decode cL_all 39 = .ok (.istore_n 3, 1) := by decide +kernel
theorem dL_all_40 : decode cL_all 40 = .ok (.iload_n 3, 1) := by decide +kernel
theorem dL_all_41 : decode cL_all 41 = .ok (.aload_n 0, 1) := by decide +kernel
theorem dL_all_42 : decode cL_all 42 = .ok (.invokevirtual 102, 3) := by decide +kernel
theorem dL_all_45 : decode cL_all 45 = .ok (.if_icmp .ge 122, 3) := by decide +kernel
theorem dL_all_48 : decode cL_all 48 = .ok (.bipush 31, 2) := by decide +kernel
theorem dL_all_50 : decode cL_all 50 = .ok (.iload_n 2, 1) := by decide +kernel
theorem dL_all_51 : decode cL_all 51 = .ok (.imul, 1) := by decide +kernel
theorem dL_all_52 : decode cL_all 52 = .ok (.aload_n 0, 1) := by decide +kernel
theorem dL_all_53 : decode cL_all 53 = .ok (.iload_n 3, 1) := by decide +kernel
theorem dL_all_54 : decode cL_all 54 = .ok (.invokevirtual 158, 3) := by decide +kernel
theorem dL_all_57 : decode cL_all 57 = .ok (.iadd, 1) := by decide +kernel
theorem dL_all_58 : decode cL_all 58 = .ok (.sipush 1000, 3) := by decide +kernel
theorem dL_all_61 : decode cL_all 61 = .ok (.aload_n 0, 1) := by decide +kernel
theorem dL_all_62 : decode cL_all 62 = .ok (.iload_n 3, 1) := by decide +kernel
theorem dL_all_63 : decode cL_all 63 = .ok (.invokevirtual 165, 3) := by decide +kernel
theorem dL_all_66 : decode cL_all 66 = .ok (.imul, 1) := by decide +kernel
theorem dL_all_67 : decode cL_all 67 = .ok (.iadd, 1) := by decide +kernel
theorem dL_all_68 : decode cL_all 68 = .ok (.aload_n 0, 1) := by decide +kernel
theorem dL_all_69 : decode cL_all 69 = .ok (.iload_n 3, 1) := by decide +kernel
theorem dL_all_70 : decode cL_all 70 = .ok (.invokevirtual 170, 3) := by decide +kernel
theorem dL_all_73 : decode cL_all 73 = .ok (.iadd, 1) := by decide +kernel
theorem dL_all_74 : decode cL_all 74 = .ok (.bipush 7, 2) := by decide +kernel
theorem dL_all_76 : decode cL_all 76 = .ok (.aload_n 0, 1) := by decide +kernel
theorem dL_all_77 : decode cL_all 77 = .ok (.iload_n 3, 1) := by decide +kernel
theorem dL_all_78 : decode cL_all 78 = .ok (.invokevirtual 175, 3) := by decide +kernel
theorem dL_all_81 : decode cL_all 81 = .ok (.imul, 1) := by decide +kernel
theorem dL_all_82 : decode cL_all 82 = .ok (.iadd, 1) := by decide +kernel
theorem dL_all_83 : decode cL_all 83 = .ok (.bipush 11, 2) := by decide +kernel
theorem dL_all_85 : decode cL_all 85 = .ok (.aload_n 0, 1) := by decide +kernel
theorem dL_all_86 : decode cL_all 86 = .ok (.iload_n 3, 1) := by decide +kernel
theorem dL_all_87 : decode cL_all 87 = .ok (.invokevirtual 180, 3) := by decide +kernel
theorem dL_all_90 : decode cL_all 90 = .ok (.imul, 1) := by decide +kernel
theorem dL_all_91 : decode cL_all 91 = .ok (.iadd, 1) := by decide +kernel
theorem dL_all_92 : decode cL_all 92 = .ok (.bipush 13, 2) := by decide +kernel
theorem dL_all_94 : decode cL_all 94 = .ok (.aload_n 0, 1) := by decide +kernel
theorem dL_all_95 : decode cL_all 95 = .ok (.iload_n 3, 1) := by decide +kernel
theorem dL_all_96 : decode cL_all 96 = .ok (.invokevirtual 186, 3) := by decide +kernel
theorem dL_all_99 : decode cL_all 99 = .ok (.imul, 1) := by decide +kernel
theorem dL_all_100 : decode cL_all 100 = .ok (.iadd, 1) := by decide +kernel
theorem dL_all_101 : decode cL_all 101 = .ok (.istore_n 2, 1) := by decide +kernel
theorem dL_all_102 : decode cL_all 102 = .ok (.iconst 0, 1) := by decide +kernel
theorem dL_all_103 : decode cL_all 103 = .ok (.istore 4, 2) := by decide +kernel
theorem dL_all_105 : decode cL_all 105 = .ok (.iload 4, 2) := by decide +kernel
theorem dL_all_107 : decode cL_all 107 = .ok (.aload_n 1, 1) := by decide +kernel
theorem dL_all_108 : decode cL_all 108 = .ok (.getfield 31, 3) := by decide +kernel
theorem dL_all_111 : decode cL_all 111 = .ok (.if_icmp .ge 50, 3) := by decide +kernel
theorem dL_all_114 : decode cL_all 114 = .ok (.bipush 31, 2) := by decide +kernel
theorem dL_all_116 : decode cL_all 116 = .ok (.iload_n 2, 1) := by decide +kernel
theorem dL_all_117 : decode cL_all 117 = .ok (.imul, 1) := by decide +kernel
theorem dL_all_118 : decode cL_all 118 = .ok (.aload_n 0, 1) := by decide +kernel
theorem dL_all_119 : decode cL_all 119 = .ok (.iload_n 3, 1) := by decide +kernel
theorem dL_all_120 : decode cL_all 120 = .ok (.iload 4, 2) := by decide +kernel
theorem dL_all_122 : decode cL_all 122 = .ok (.invokevirtual 198, 3) := by decide +kernel
theorem dL_all_125 : decode cL_all 125 = .ok (.iadd, 1) := by decide +kernel
theorem dL_all_126 : decode cL_all 126 = .ok (.bipush 100, 2) := by decide +kernel
theorem dL_all_128 : decode cL_all 128 = .ok (.aload_n 0, 1) := by decide +kernel
theorem dL_all_129 : decode cL_all 129 = .ok (.iload_n 3, 1) := by decide +kernel
theorem dL_all_130 : decode cL_all 130 = .ok (.iload 4, 2) := by decide +kernel
theorem dL_all_132 : decode cL_all 132 = .ok (.invokevirtual 195, 3) := by decide +kernel
theorem dL_all_135 : decode cL_all 135 = .ok (.imul, 1) := by decide +kernel
theorem dL_all_136 : decode cL_all 136 = .ok (.iadd, 1) := by decide +kernel
theorem dL_all_137 : decode cL_all 137 = .ok (.aload_n 0, 1) := by decide +kernel
theorem dL_all_138 : decode cL_all 138 = .ok (.iload_n 3, 1) := by decide +kernel
theorem dL_all_139 : decode cL_all 139 = .ok (.iload 4, 2) := by decide +kernel
theorem dL_all_141 : decode cL_all 141 = .ok (.invokevirtual 203, 3) := by decide +kernel
theorem dL_all_144 : decode cL_all 144 = .ok (.ifCond .eq 8, 3) := by decide +kernel
theorem dL_all_147 : decode cL_all 147 = .ok (.bipush 7, 2) := by decide +kernel
theorem dL_all_149 : decode cL_all 149 = .ok (.goto 4, 3) := by decide +kernel
theorem dL_all_152 : decode cL_all 152 = .ok (.iconst 0, 1) := by decide +kernel
theorem dL_all_153 : decode cL_all 153 = .ok (.iadd, 1) := by decide +kernel
theorem dL_all_154 : decode cL_all 154 = .ok (.istore_n 2, 1) := by decide +kernel
theorem dL_all_155 : decode cL_all 155 = .ok (.iinc 4 1, 3) := by decide +kernel
theorem dL_all_158 : decode cL_all 158 = .ok (.goto (-53), 3) := by decide +kernel
theorem dL_all_161 : decode cL_all 161 = .ok (.iinc 3 1, 3) := by decide +kernel
theorem dL_all_164 : decode cL_all 164 = .ok (.goto (-124), 3) := by decide +kernel
theorem dL_all_167 : decode cL_all 167 = .ok (.iconst 0, 1) := by decide +kernel
theorem dL_all_168 : decode cL_all 168 = .ok (.istore_n 3, 1) := by decide +kernel
theorem dL_all_169 : decode cL_all 169 = .ok (.iload_n 3, 1) := by decide +kernel
theorem dL_all_170 : decode cL_all 170 = .ok (.aload_n 1, 1) := by decide +kernel
theorem dL_all_171 : decode cL_all 171 = .ok (.getfield 31, 3) := by decide +kernel
theorem dL_all_174 : decode cL_all 174 = .ok (.if_icmp .ge 71, 3) := by decide +kernel
theorem dL_all_177 : decode cL_all 177 = .ok (.bipush 31, 2) := by decide +kernel
theorem dL_all_179 : decode cL_all 179 = .ok (.iload_n 2, 1) := by decide +kernel
theorem dL_all_180 : decode cL_all 180 = .ok (.imul, 1) := by decide +kernel
theorem dL_all_181 : decode cL_all 181 = .ok (.aload_n 0, 1) := by decide +kernel
theorem dL_all_182 : decode cL_all 182 = .ok (.iload_n 3, 1) := by decide +kernel
theorem dL_all_183 : decode cL_all 183 = .ok (.invokevirtual 133, 3) := by decide +kernel
theorem dL_all_186 : decode cL_all 186 = .ok (.iadd, 1) := by decide +kernel
theorem dL_all_187 : decode cL_all 187 = .ok (.istore_n 2, 1) := by decide +kernel
theorem dL_all_188 : decode cL_all 188 = .ok (.iconst 0, 1) := by decide +kernel
theorem dL_all_189 : decode cL_all 189 = .ok (.istore 4, 2) := by decide +kernel
theorem dL_all_191 : decode cL_all 191 = .ok (.iload 4, 2) := by decide +kernel
theorem dL_all_193 : decode cL_all 193 = .ok (.aload_n 1, 1) := by decide +kernel
theorem dL_all_194 : decode cL_all 194 = .ok (.getfield 31, 3) := by decide +kernel
theorem dL_all_197 : decode cL_all 197 = .ok (.if_icmp .ge 42, 3) := by decide +kernel
theorem dL_all_200 : decode cL_all 200 = .ok (.bipush 31, 2) := by decide +kernel
theorem dL_all_202 : decode cL_all 202 = .ok (.iload_n 2, 1) := by decide +kernel
theorem dL_all_203 : decode cL_all 203 = .ok (.imul, 1) := by decide +kernel
theorem dL_all_204 : decode cL_all 204 = .ok (.aload_n 0, 1) := by decide +kernel
theorem dL_all_205 : decode cL_all 205 = .ok (.iload_n 3, 1) := by decide +kernel
theorem dL_all_206 : decode cL_all 206 = .ok (.iload 4, 2) := by decide +kernel
theorem dL_all_208 : decode cL_all 208 = .ok (.invokevirtual 142, 3) := by decide +kernel
theorem dL_all_211 : decode cL_all 211 = .ok (.iadd, 1) := by decide +kernel
theorem dL_all_212 : decode cL_all 212 = .ok (.iconst 5, 1) := by decide +kernel
theorem dL_all_213 : decode cL_all 213 = .ok (.aload_n 0, 1) := by decide +kernel
theorem dL_all_214 : decode cL_all 214 = .ok (.iload_n 3, 1) := by decide +kernel
theorem dL_all_215 : decode cL_all 215 = .ok (.iload 4, 2) := by decide +kernel
theorem dL_all_217 : decode cL_all 217 = .ok (.invokevirtual 144, 3) := by decide +kernel
theorem dL_all_220 : decode cL_all 220 = .ok (.imul, 1) := by decide +kernel
theorem dL_all_221 : decode cL_all 221 = .ok (.iadd, 1) := by decide +kernel
theorem dL_all_222 : decode cL_all 222 = .ok (.iconst 3, 1) := by decide +kernel
theorem dL_all_223 : decode cL_all 223 = .ok (.aload_n 0, 1) := by decide +kernel
theorem dL_all_224 : decode cL_all 224 = .ok (.iload_n 3, 1) := by decide +kernel
theorem dL_all_225 : decode cL_all 225 = .ok (.iload 4, 2) := by decide +kernel
theorem dL_all_227 : decode cL_all 227 = .ok (.invokevirtual 149, 3) := by decide +kernel
theorem dL_all_230 : decode cL_all 230 = .ok (.imul, 1) := by decide +kernel
theorem dL_all_231 : decode cL_all 231 = .ok (.iadd, 1) := by decide +kernel
theorem dL_all_232 : decode cL_all 232 = .ok (.istore_n 2, 1) := by decide +kernel
theorem dL_all_233 : decode cL_all 233 = .ok (.iinc 4 1, 3) := by decide +kernel
theorem dL_all_236 : decode cL_all 236 = .ok (.goto (-45), 3) := by decide +kernel
theorem dL_all_239 : decode cL_all 239 = .ok (.iinc 3 1, 3) := by decide +kernel
theorem dL_all_242 : decode cL_all 242 = .ok (.goto (-73), 3) := by decide +kernel
theorem dL_all_245 : decode cL_all 245 = .ok (.iload_n 2, 1) := by decide +kernel
theorem dL_all_246 : decode cL_all 246 = .ok (.ireturn, 1) := by decide +kernel
theorem dL_isSound_0 : decode cL_isSound 0 = .ok (.aload_n 0, 1) := by decide +kernel
theorem dL_isSound_1 : decode cL_isSound 1 = .ok (.invokevirtual 102, 3) := by decide +kernel
theorem dL_isSound_4 : decode cL_isSound 4 = .ok (.istore_n 2, 1) := by decide +kernel
theorem dL_isSound_5 : decode cL_isSound 5 = .ok (.iconst 0, 1) := by decide +kernel
theorem dL_isSound_6 : decode cL_isSound 6 = .ok (.istore_n 3, 1) := by decide +kernel
theorem dL_isSound_7 : decode cL_isSound 7 = .ok (.iconst 0, 1) := by decide +kernel
theorem dL_isSound_8 : decode cL_isSound 8 = .ok (.istore 4, 2) := by decide +kernel
theorem dL_isSound_10 : decode cL_isSound 10 = .ok (.iconst 0, 1) := by decide +kernel
theorem dL_isSound_11 : decode cL_isSound 11 = .ok (.istore 5, 2) := by decide +kernel
theorem dL_isSound_13 : decode cL_isSound 13 = .ok (.iload 5, 2) := by decide +kernel
theorem dL_isSound_15 : decode cL_isSound 15 = .ok (.aload_n 1, 1) := by decide +kernel
theorem dL_isSound_16 : decode cL_isSound 16 = .ok (.getfield 31, 3) := by decide +kernel
theorem dL_isSound_19 : decode cL_isSound 19 = .ok (.if_icmp .ge 223, 3) := by decide +kernel
theorem dL_isSound_22 : decode cL_isSound 22 = .ok (.iconst 0, 1) := by decide +kernel
theorem dL_isSound_23 : decode cL_isSound 23 = .ok (.istore 6, 2) := by decide +kernel
theorem dL_isSound_25 : decode cL_isSound 25 = .ok (.iconst 0, 1) := by decide +kernel
theorem dL_isSound_26 : decode cL_isSound 26 = .ok (.istore 7, 2) := by decide +kernel
theorem dL_isSound_28 : decode cL_isSound 28 = .ok (.iload 7, 2) := by decide +kernel
theorem dL_isSound_30 : decode cL_isSound 30 = .ok (.iload_n 2, 1) := by decide +kernel
theorem dL_isSound_31 : decode cL_isSound 31 = .ok (.if_icmp .ge 23, 3) := by decide +kernel
theorem dL_isSound_34 : decode cL_isSound 34 = .ok (.aload_n 0, 1) := by decide +kernel
theorem dL_isSound_35 : decode cL_isSound 35 = .ok (.iload 7, 2) := by decide +kernel
theorem dL_isSound_37 : decode cL_isSound 37 = .ok (.invokevirtual 175, 3) := by decide +kernel
theorem dL_isSound_40 : decode cL_isSound 40 = .ok (.iload 5, 2) := by decide +kernel
theorem dL_isSound_42 : decode cL_isSound 42 = .ok (.if_icmp .ne 6, 3) := by decide +kernel
theorem dL_isSound_45 : decode cL_isSound 45 = .ok (.iinc 6 1, 3) := by decide +kernel
theorem dL_isSound_48 : decode cL_isSound 48 = .ok (.iinc 7 1, 3) := by decide +kernel
theorem dL_isSound_51 : decode cL_isSound 51 = .ok (.goto (-23), 3) := by decide +kernel
theorem dL_isSound_54 : decode cL_isSound 54 = .ok (.aload_n 0, 1) := by decide +kernel
theorem dL_isSound_55 : decode cL_isSound 55 = .ok (.iload 5, 2) := by decide +kernel
theorem dL_isSound_57 : decode cL_isSound 57 = .ok (.invokevirtual 130, 3) := by decide +kernel
theorem dL_isSound_60 : decode cL_isSound 60 = .ok (.istore 7, 2) := by decide +kernel
theorem dL_isSound_62 : decode cL_isSound 62 = .ok (.aload_n 0, 1) := by decide +kernel
theorem dL_isSound_63 : decode cL_isSound 63 = .ok (.iload 5, 2) := by decide +kernel
theorem dL_isSound_65 : decode cL_isSound 65 = .ok (.invokevirtual 124, 3) := by decide +kernel
theorem dL_isSound_68 : decode cL_isSound 68 = .ok (.iload 6, 2) := by decide +kernel
theorem dL_isSound_70 : decode cL_isSound 70 = .ok (.if_icmp .ne 56, 3) := by decide +kernel
theorem dL_isSound_73 : decode cL_isSound 73 = .ok (.iload 6, 2) := by decide +kernel
theorem dL_isSound_75 : decode cL_isSound 75 = .ok (.aload_n 1, 1) := by decide +kernel
theorem dL_isSound_76 : decode cL_isSound 76 = .ok (.getfield 35, 3) := by decide +kernel
theorem dL_isSound_79 : decode cL_isSound 79 = .ok (.iload 5, 2) := by decide +kernel
theorem dL_isSound_81 : decode cL_isSound 81 = .ok (.aaload, 1) := by decide +kernel
theorem dL_isSound_82 : decode cL_isSound 82 = .ok (.iconst 4, 1) := by decide +kernel
theorem dL_isSound_83 : decode cL_isSound 83 = .ok (.iaload, 1) := by decide +kernel
theorem dL_isSound_84 : decode cL_isSound 84 = .ok (.if_icmp .gt 42, 3) := by decide +kernel
theorem dL_isSound_87 : decode cL_isSound 87 = .ok (.iload 7, 2) := by decide +kernel
theorem dL_isSound_89 : decode cL_isSound 89 = .ok (.aload_n 1, 1) := by decide +kernel
theorem dL_isSound_90 : decode cL_isSound 90 = .ok (.getfield 35, 3) := by decide +kernel
theorem dL_isSound_93 : decode cL_isSound 93 = .ok (.iload 5, 2) := by decide +kernel
theorem dL_isSound_95 : decode cL_isSound 95 = .ok (.aaload, 1) := by decide +kernel
theorem dL_isSound_96 : decode cL_isSound 96 = .ok (.iconst 5, 1) := by decide +kernel
theorem dL_isSound_97 : decode cL_isSound 97 = .ok (.iaload, 1) := by decide +kernel
theorem dL_isSound_98 : decode cL_isSound 98 = .ok (.if_icmp .gt 28, 3) := by decide +kernel
theorem dL_isSound_101 : decode cL_isSound 101 = .ok (.aload_n 0, 1) := by decide +kernel
theorem dL_isSound_102 : decode cL_isSound 102 = .ok (.iload 5, 2) := by decide +kernel
theorem dL_isSound_104 : decode cL_isSound 104 = .ok (.iload 7, 2) := by decide +kernel
theorem dL_isSound_106 : decode cL_isSound 106 = .ok (.invokevirtual 139, 3) := by decide +kernel
theorem dL_isSound_109 : decode cL_isSound 109 = .ok (.iconst (-1), 1) := by decide +kernel
theorem dL_isSound_110 : decode cL_isSound 110 = .ok (.if_icmp .ne 16, 3) := by decide +kernel
theorem dL_isSound_113 : decode cL_isSound 113 = .ok (.aload_n 0, 1) := by decide +kernel
theorem dL_isSound_114 : decode cL_isSound 114 = .ok (.iload 5, 2) := by decide +kernel
theorem dL_isSound_116 : decode cL_isSound 116 = .ok (.invokevirtual 133, 3) := by decide +kernel
theorem dL_isSound_119 : decode cL_isSound 119 = .ok (.aload_n 0, 1) := by decide +kernel
theorem dL_isSound_120 : decode cL_isSound 120 = .ok (.invokevirtual 108, 3) := by decide +kernel
theorem dL_isSound_123 : decode cL_isSound 123 = .ok (.if_icmp .le 5, 3) := by decide +kernel
theorem dL_isSound_126 : decode cL_isSound 126 = .ok (.iconst 0, 1) := by decide +kernel
theorem dL_isSound_127 : decode cL_isSound 127 = .ok (.ireturn, 1) := by decide +kernel
theorem dL_isSound_128 : decode cL_isSound 128 = .ok (.iconst 0, 1) := by decide +kernel
theorem dL_isSound_129 : decode cL_isSound 129 = .ok (.istore 8, 2) := by decide +kernel
theorem dL_isSound_131 : decode cL_isSound 131 = .ok (.iload 8, 2) := by decide +kernel
theorem dL_isSound_133 : decode cL_isSound 133 = .ok (.iload 7, 2) := by decide +kernel
theorem dL_isSound_135 : decode cL_isSound 135 = .ok (.if_icmp .ge 65, 3) := by decide +kernel
theorem dL_isSound_138 : decode cL_isSound 138 = .ok (.aload_n 0, 1) := by decide +kernel
theorem dL_isSound_139 : decode cL_isSound 139 = .ok (.iload 5, 2) := by decide +kernel
theorem dL_isSound_141 : decode cL_isSound 141 = .ok (.iload 8, 2) := by decide +kernel
theorem dL_isSound_143 : decode cL_isSound 143 = .ok (.invokevirtual 139, 3) := by decide +kernel
theorem dL_isSound_146 : decode cL_isSound 146 = .ok (.istore 9, 2) := by decide +kernel
theorem dL_isSound_148 : decode cL_isSound 148 = .ok (.aload_n 0, 1) := by decide +kernel
theorem dL_isSound_149 : decode cL_isSound 149 = .ok (.iload 9, 2) := by decide +kernel
theorem dL_isSound_151 : decode cL_isSound 151 = .ok (.invokevirtual 186, 3) := by decide +kernel
theorem dL_isSound_154 : decode cL_isSound 154 = .ok (.iload 5, 2) := by decide +kernel
theorem dL_isSound_156 : decode cL_isSound 156 = .ok (.if_icmp .ne 36, 3) := by decide +kernel
theorem dL_isSound_159 : decode cL_isSound 159 = .ok (.iload 8, 2) := by decide +kernel
theorem dL_isSound_161 : decode cL_isSound 161 = .ok (.ifCond .le 33, 3) := by decide +kernel
theorem dL_isSound_164 : decode cL_isSound 164 = .ok (.aload_n 0, 1) := by decide +kernel
theorem dL_isSound_165 : decode cL_isSound 165 = .ok (.aload_n 0, 1) := by decide +kernel
theorem dL_isSound_166 : decode cL_isSound 166 = .ok (.iload 5, 2) := by decide +kernel
theorem dL_isSound_168 : decode cL_isSound 168 = .ok (.iload 8, 2) := by decide +kernel
theorem dL_isSound_170 : decode cL_isSound 170 = .ok (.iconst 1, 1) := by decide +kernel
theorem dL_isSound_171 : decode cL_isSound 171 = .ok (.isub, 1) := by decide +kernel
theorem dL_isSound_172 : decode cL_isSound 172 = .ok (.invokevirtual 139, 3) := by decide +kernel
theorem dL_isSound_175 : decode cL_isSound 175 = .ok (.invokevirtual 170, 3) := by decide +kernel
theorem dL_isSound_178 : decode cL_isSound 178 = .ok (.iconst 2, 1) := by decide +kernel
theorem dL_isSound_179 : decode cL_isSound 179 = .ok (.if_icmp .ne 15, 3) := by decide +kernel
theorem dL_isSound_182 : decode cL_isSound 182 = .ok (.aload_n 0, 1) := by decide +kernel
theorem dL_isSound_183 : decode cL_isSound 183 = .ok (.iload 9, 2) := by decide +kernel
theorem dL_isSound_185 : decode cL_isSound 185 = .ok (.invokevirtual 170, 3) := by decide +kernel
theorem dL_isSound_188 : decode cL_isSound 188 = .ok (.iconst 1, 1) := by decide +kernel
theorem dL_isSound_189 : decode cL_isSound 189 = .ok (.if_icmp .ne 5, 3) := by decide +kernel
theorem dL_isSound_192 : decode cL_isSound 192 = .ok (.iconst 0, 1) := by decide +kernel
theorem dL_isSound_193 : decode cL_isSound 193 = .ok (.ireturn, 1) := by decide +kernel
theorem dL_isSound_194 : decode cL_isSound 194 = .ok (.iinc 8 1, 3) := by decide +kernel
theorem dL_isSound_197 : decode cL_isSound 197 = .ok (.goto (-66), 3) := by decide +kernel
theorem dL_isSound_200 : decode cL_isSound 200 = .ok (.iload_n 3, 1) := by decide +kernel
theorem dL_isSound_201 : decode cL_isSound 201 = .ok (.iload 7, 2) := by decide +kernel
theorem dL_isSound_203 : decode cL_isSound 203 = .ok (.iadd, 1) := by decide +kernel
theorem dL_isSound_204 : decode cL_isSound 204 = .ok (.istore_n 3, 1) := by decide +kernel
theorem dL_isSound_205 : decode cL_isSound 205 = .ok (.iconst 0, 1) := by decide +kernel
theorem dL_isSound_206 : decode cL_isSound 206 = .ok (.istore 8, 2) := by decide +kernel
theorem dL_isSound_208 : decode cL_isSound 208 = .ok (.iload 8, 2) := by decide +kernel
theorem dL_isSound_210 : decode cL_isSound 210 = .ok (.aload_n 1, 1) := by decide +kernel
theorem dL_isSound_211 : decode cL_isSound 211 = .ok (.getfield 31, 3) := by decide +kernel
theorem dL_isSound_214 : decode cL_isSound 214 = .ok (.if_icmp .ge 22, 3) := by decide +kernel
theorem dL_isSound_217 : decode cL_isSound 217 = .ok (.iload 4, 2) := by decide +kernel
theorem dL_isSound_219 : decode cL_isSound 219 = .ok (.aload_n 0, 1) := by decide +kernel
theorem dL_isSound_220 : decode cL_isSound 220 = .ok (.iload 5, 2) := by decide +kernel
theorem dL_isSound_222 : decode cL_isSound 222 = .ok (.iload 8, 2) := by decide +kernel
theorem dL_isSound_224 : decode cL_isSound 224 = .ok (.invokevirtual 144, 3) := by decide +kernel
theorem dL_isSound_227 : decode cL_isSound 227 = .ok (.iadd, 1) := by decide +kernel
theorem dL_isSound_228 : decode cL_isSound 228 = .ok (.istore 4, 2) := by decide +kernel
theorem dL_isSound_230 : decode cL_isSound 230 = .ok (.iinc 8 1, 3) := by decide +kernel
theorem dL_isSound_233 : decode cL_isSound 233 = .ok (.goto (-25), 3) := by decide +kernel
theorem dL_isSound_236 : decode cL_isSound 236 = .ok (.iinc 5 1, 3) := by decide +kernel
theorem dL_isSound_239 : decode cL_isSound 239 = .ok (.goto (-226), 3) := by decide +kernel
theorem dL_isSound_242 : decode cL_isSound 242 = .ok (.iconst 0, 1) := by decide +kernel
theorem dL_isSound_243 : decode cL_isSound 243 = .ok (.istore 5, 2) := by decide +kernel
theorem dL_isSound_245 : decode cL_isSound 245 = .ok (.iload 5, 2) := by decide +kernel
theorem dL_isSound_247 : decode cL_isSound 247 = .ok (.iload_n 2, 1) := by decide +kernel
theorem dL_isSound_248 : decode cL_isSound 248 = .ok (.if_icmp .ge 373, 3) := by decide +kernel
theorem dL_isSound_251 : decode cL_isSound 251 = .ok (.aload_n 0, 1) := by decide +kernel
theorem dL_isSound_252 : decode cL_isSound 252 = .ok (.iload 5, 2) := by decide +kernel
theorem dL_isSound_254 : decode cL_isSound 254 = .ok (.invokevirtual 170, 3) := by decide +kernel
theorem dL_isSound_257 : decode cL_isSound 257 = .ok (.istore 6, 2) := by decide +kernel
theorem dL_isSound_259 : decode cL_isSound 259 = .ok (.aload_n 0, 1) := by decide +kernel
theorem dL_isSound_260 : decode cL_isSound 260 = .ok (.iload 5, 2) := by decide +kernel
theorem dL_isSound_262 : decode cL_isSound 262 = .ok (.invokevirtual 186, 3) := by decide +kernel
theorem dL_isSound_265 : decode cL_isSound 265 = .ok (.ifCond .lt 6, 3) := by decide +kernel
theorem dL_isSound_268 : decode cL_isSound 268 = .ok (.iinc 3 (-1), 3) := by decide +kernel
theorem dL_isSound_271 : decode cL_isSound 271 = .ok (.iload 6, 2) := by decide +kernel
theorem dL_isSound_273 : decode cL_isSound 273 = .ok (.iconst 1, 1) := by decide +kernel
theorem dL_isSound_274 : decode cL_isSound 274 = .ok (.if_icmp .ne 7, 3) := by decide +kernel
theorem dL_isSound_277 : decode cL_isSound 277 = .ok (.iconst 1, 1) := by decide +kernel
theorem dL_isSound_278 : decode cL_isSound 278 = .ok (.goto 4, 3) := by decide +kernel
theorem dL_isSound_281 : decode cL_isSound 281 = .ok (.iconst 0, 1) := by decide +kernel
theorem dL_isSound_282 : decode cL_isSound 282 = .ok (.aload_n 0, 1) := by decide +kernel
theorem dL_isSound_283 : decode cL_isSound 283 = .ok (.iload 5, 2) := by decide +kernel
theorem dL_isSound_285 : decode cL_isSound 285 = .ok (.invokevirtual 175, 3) := by decide +kernel
theorem dL_isSound_288 : decode cL_isSound 288 = .ok (.ifCond .lt 7, 3) := by decide +kernel
theorem dL_isSound_291 : decode cL_isSound 291 = .ok (.iconst 1, 1) := by decide +kernel
theorem dL_isSound_292 : decode cL_isSound 292 = .ok (.goto 4, 3) := by decide +kernel
theorem dL_isSound_295 : decode cL_isSound 295 = .ok (.iconst 0, 1) := by decide +kernel
theorem dL_isSound_296 : decode cL_isSound 296 = .ok (.if_icmp .ne 60, 3) := by decide +kernel
theorem dL_isSound_299 : decode cL_isSound 299 = .ok (.iload 6, 2) := by decide +kernel
theorem dL_isSound_301 : decode cL_isSound 301 = .ok (.ifCond .ne 7, 3) := by decide +kernel
theorem dL_isSound_304 : decode cL_isSound 304 = .ok (.iconst 1, 1) := by decide +kernel
theorem dL_isSound_305 : decode cL_isSound 305 = .ok (.goto 4, 3) := by decide +kernel
theorem dL_isSound_308 : decode cL_isSound 308 = .ok (.iconst 0, 1) := by decide +kernel
theorem dL_isSound_309 : decode cL_isSound 309 = .ok (.aload_n 0, 1) := by decide +kernel
theorem dL_isSound_310 : decode cL_isSound 310 = .ok (.iload 5, 2) := by decide +kernel
theorem dL_isSound_312 : decode cL_isSound 312 = .ok (.invokevirtual 180, 3) := by decide +kernel
theorem dL_isSound_315 : decode cL_isSound 315 = .ok (.ifCond .ne 7, 3) := by decide +kernel
theorem dL_isSound_318 : decode cL_isSound 318 = .ok (.iconst 1, 1) := by decide +kernel
theorem dL_isSound_319 : decode cL_isSound 319 = .ok (.goto 4, 3) := by decide +kernel
theorem dL_isSound_322 : decode cL_isSound 322 = .ok (.iconst 0, 1) := by decide +kernel
theorem dL_isSound_323 : decode cL_isSound 323 = .ok (.if_icmp .ne 33, 3) := by decide +kernel
theorem dL_isSound_326 : decode cL_isSound 326 = .ok (.iload 6, 2) := by decide +kernel
theorem dL_isSound_328 : decode cL_isSound 328 = .ok (.ifCond .ne 13, 3) := by decide +kernel
theorem dL_isSound_331 : decode cL_isSound 331 = .ok (.aload_n 0, 1) := by decide +kernel
theorem dL_isSound_332 : decode cL_isSound 332 = .ok (.iload 5, 2) := by decide +kernel
theorem dL_isSound_334 : decode cL_isSound 334 = .ok (.invokevirtual 186, 3) := by decide +kernel
theorem dL_isSound_337 : decode cL_isSound 337 = .ok (.iconst (-1), 1) := by decide +kernel
theorem dL_isSound_338 : decode cL_isSound 338 = .ok (.if_icmp .ne 18, 3) := by decide +kernel
theorem dL_isSound_341 : decode cL_isSound 341 = .ok (.iload 6, 2) := by decide +kernel
theorem dL_isSound_343 : decode cL_isSound 343 = .ok (.iconst 2, 1) := by decide +kernel
theorem dL_isSound_344 : decode cL_isSound 344 = .ok (.if_icmp .ne 14, 3) := by decide +kernel
theorem dL_isSound_347 : decode cL_isSound 347 = .ok (.aload_n 0, 1) := by decide +kernel
theorem dL_isSound_348 : decode cL_isSound 348 = .ok (.iload 5, 2) := by decide +kernel
theorem dL_isSound_350 : decode cL_isSound 350 = .ok (.invokevirtual 186, 3) := by decide +kernel
theorem dL_isSound_353 : decode cL_isSound 353 = .ok (.ifCond .ge 5, 3) := by decide +kernel
theorem dL_isSound_356 : decode cL_isSound 356 = .ok (.iconst 0, 1) := by decide +kernel
theorem dL_isSound_357 : decode cL_isSound 357 = .ok (.ireturn, 1) := by decide +kernel
theorem dL_isSound_358 : decode cL_isSound 358 = .ok (.iconst (-1), 1) := by decide +kernel
theorem dL_isSound_359 : decode cL_isSound 359 = .ok (.istore 7, 2) := by decide +kernel
theorem dL_isSound_361 : decode cL_isSound 361 = .ok (.iconst 0, 1) := by decide +kernel
theorem dL_isSound_362 : decode cL_isSound 362 = .ok (.istore 8, 2) := by decide +kernel
theorem dL_isSound_364 : decode cL_isSound 364 = .ok (.aload_n 0, 1) := by decide +kernel
theorem dL_isSound_365 : decode cL_isSound 365 = .ok (.iload 5, 2) := by decide +kernel
theorem dL_isSound_367 : decode cL_isSound 367 = .ok (.iload 8, 2) := by decide +kernel
theorem dL_isSound_369 : decode cL_isSound 369 = .ok (.invokevirtual 213, 3) := by decide +kernel
theorem dL_isSound_372 : decode cL_isSound 372 = .ok (.ifCond .lt 243, 3) := by decide +kernel
theorem dL_isSound_375 : decode cL_isSound 375 = .ok (.aload_n 0, 1) := by decide +kernel
theorem dL_isSound_376 : decode cL_isSound 376 = .ok (.iload 5, 2) := by decide +kernel
theorem dL_isSound_378 : decode cL_isSound 378 = .ok (.iload 8, 2) := by decide +kernel
theorem dL_isSound_380 : decode cL_isSound 380 = .ok (.invokevirtual 213, 3) := by decide +kernel
theorem dL_isSound_383 : decode cL_isSound 383 = .ok (.istore 9, 2) := by decide +kernel
theorem dL_isSound_385 : decode cL_isSound 385 = .ok (.aload_n 0, 1) := by decide +kernel
theorem dL_isSound_386 : decode cL_isSound 386 = .ok (.iload 5, 2) := by decide +kernel
theorem dL_isSound_388 : decode cL_isSound 388 = .ok (.iload 9, 2) := by decide +kernel
theorem dL_isSound_390 : decode cL_isSound 390 = .ok (.invokevirtual 198, 3) := by decide +kernel
theorem dL_isSound_393 : decode cL_isSound 393 = .ok (.istore 10, 2) := by decide +kernel
theorem dL_isSound_395 : decode cL_isSound 395 = .ok (.iload 6, 2) := by decide +kernel
theorem dL_isSound_397 : decode cL_isSound 397 = .ok (.iconst 1, 1) := by decide +kernel
theorem dL_isSound_398 : decode cL_isSound 398 = .ok (.if_icmp .ne 65, 3) := by decide +kernel
theorem dL_isSound_401 : decode cL_isSound 401 = .ok (.aload_n 0, 1) := by decide +kernel
theorem dL_isSound_402 : decode cL_isSound 402 = .ok (.aload_n 0, 1) := by decide +kernel
theorem dL_isSound_403 : decode cL_isSound 403 = .ok (.iload 5, 2) := by decide +kernel
theorem dL_isSound_405 : decode cL_isSound 405 = .ok (.invokevirtual 175, 3) := by decide +kernel
theorem dL_isSound_408 : decode cL_isSound 408 = .ok (.iload 9, 2) := by decide +kernel
theorem dL_isSound_410 : decode cL_isSound 410 = .ok (.invokevirtual 142, 3) := by decide +kernel
theorem dL_isSound_413 : decode cL_isSound 413 = .ok (.ifCond .lt 50, 3) := by decide +kernel
theorem dL_isSound_416 : decode cL_isSound 416 = .ok (.iload 10, 2) := by decide +kernel
theorem dL_isSound_418 : decode cL_isSound 418 = .ok (.aload_n 0, 1) := by decide +kernel
theorem dL_isSound_419 : decode cL_isSound 419 = .ok (.iload 5, 2) := by decide +kernel
theorem dL_isSound_421 : decode cL_isSound 421 = .ok (.aload_n 0, 1) := by decide +kernel
theorem dL_isSound_422 : decode cL_isSound 422 = .ok (.iload 5, 2) := by decide +kernel
theorem dL_isSound_424 : decode cL_isSound 424 = .ok (.invokevirtual 175, 3) := by decide +kernel
theorem dL_isSound_427 : decode cL_isSound 427 = .ok (.invokevirtual 198, 3) := by decide +kernel
theorem dL_isSound_430 : decode cL_isSound 430 = .ok (.if_icmp .le 33, 3) := by decide +kernel
theorem dL_isSound_433 : decode cL_isSound 433 = .ok (.iload 10, 2) := by decide +kernel
theorem dL_isSound_435 : decode cL_isSound 435 = .ok (.aload_n 1, 1) := by decide +kernel
theorem dL_isSound_436 : decode cL_isSound 436 = .ok (.getfield 35, 3) := by decide +kernel
theorem dL_isSound_439 : decode cL_isSound 439 = .ok (.iload 9, 2) := by decide +kernel
theorem dL_isSound_441 : decode cL_isSound 441 = .ok (.aaload, 1) := by decide +kernel
theorem dL_isSound_442 : decode cL_isSound 442 = .ok (.bipush 6, 2) := by decide +kernel
theorem dL_isSound_444 : decode cL_isSound 444 = .ok (.iaload, 1) := by decide +kernel
theorem dL_isSound_445 : decode cL_isSound 445 = .ok (.if_icmp .lt 18, 3) := by decide +kernel
theorem dL_isSound_448 : decode cL_isSound 448 = .ok (.aload_n 0, 1) := by decide +kernel
theorem dL_isSound_449 : decode cL_isSound 449 = .ok (.iload 5, 2) := by decide +kernel
theorem dL_isSound_451 : decode cL_isSound 451 = .ok (.iload 9, 2) := by decide +kernel
theorem dL_isSound_453 : decode cL_isSound 453 = .ok (.invokevirtual 195, 3) := by decide +kernel
theorem dL_isSound_456 : decode cL_isSound 456 = .ok (.aload_n 1, 1) := by decide +kernel
theorem dL_isSound_457 : decode cL_isSound 457 = .ok (.getfield 44, 3) := by decide +kernel
theorem dL_isSound_460 : decode cL_isSound 460 = .ok (.if_icmp .ge 5, 3) := by decide +kernel
theorem dL_isSound_463 : decode cL_isSound 463 = .ok (.iconst 0, 1) := by decide +kernel
theorem dL_isSound_464 : decode cL_isSound 464 = .ok (.ireturn, 1) := by decide +kernel
theorem dL_isSound_465 : decode cL_isSound 465 = .ok (.aload_n 0, 1) := by decide +kernel
theorem dL_isSound_466 : decode cL_isSound 466 = .ok (.iload 5, 2) := by decide +kernel
theorem dL_isSound_468 : decode cL_isSound 468 = .ok (.aload_n 0, 1) := by decide +kernel
theorem dL_isSound_469 : decode cL_isSound 469 = .ok (.iload 5, 2) := by decide +kernel
theorem dL_isSound_471 : decode cL_isSound 471 = .ok (.invokevirtual 175, 3) := by decide +kernel
theorem dL_isSound_474 : decode cL_isSound 474 = .ok (.invokevirtual 198, 3) := by decide +kernel
theorem dL_isSound_477 : decode cL_isSound 477 = .ok (.aload_n 1, 1) := by decide +kernel
theorem dL_isSound_478 : decode cL_isSound 478 = .ok (.getfield 35, 3) := by decide +kernel
theorem dL_isSound_481 : decode cL_isSound 481 = .ok (.aload_n 0, 1) := by decide +kernel
theorem dL_isSound_482 : decode cL_isSound 482 = .ok (.iload 5, 2) := by decide +kernel
theorem dL_isSound_484 : decode cL_isSound 484 = .ok (.invokevirtual 175, 3) := by decide +kernel
theorem dL_isSound_487 : decode cL_isSound 487 = .ok (.aaload, 1) := by decide +kernel
theorem dL_isSound_488 : decode cL_isSound 488 = .ok (.bipush 7, 2) := by decide +kernel
theorem dL_isSound_490 : decode cL_isSound 490 = .ok (.iaload, 1) := by decide +kernel
theorem dL_isSound_491 : decode cL_isSound 491 = .ok (.if_icmp .ge 7, 3) := by decide +kernel
theorem dL_isSound_494 : decode cL_isSound 494 = .ok (.iconst 1, 1) := by decide +kernel
theorem dL_isSound_495 : decode cL_isSound 495 = .ok (.goto 4, 3) := by decide +kernel
theorem dL_isSound_498 : decode cL_isSound 498 = .ok (.iconst 0, 1) := by decide +kernel
theorem dL_isSound_499 : decode cL_isSound 499 = .ok (.istore 11, 2) := by decide +kernel
theorem dL_isSound_501 : decode cL_isSound 501 = .ok (.iload 11, 2) := by decide +kernel
theorem dL_isSound_503 : decode cL_isSound 503 = .ok (.ifCond .ne 16, 3) := by decide +kernel
theorem dL_isSound_506 : decode cL_isSound 506 = .ok (.aload_n 0, 1) := by decide +kernel
theorem dL_isSound_507 : decode cL_isSound 507 = .ok (.iload 5, 2) := by decide +kernel
theorem dL_isSound_509 : decode cL_isSound 509 = .ok (.iload 9, 2) := by decide +kernel
theorem dL_isSound_511 : decode cL_isSound 511 = .ok (.invokevirtual 203, 3) := by decide +kernel
theorem dL_isSound_514 : decode cL_isSound 514 = .ok (.ifCond .eq 5, 3) := by decide +kernel
theorem dL_isSound_517 : decode cL_isSound 517 = .ok (.iconst 0, 1) := by decide +kernel
theorem dL_isSound_518 : decode cL_isSound 518 = .ok (.ireturn, 1) := by decide +kernel
theorem dL_isSound_519 : decode cL_isSound 519 = .ok (.iload 10, 2) := by decide +kernel
theorem dL_isSound_521 : decode cL_isSound 521 = .ok (.iload 11, 2) := by decide +kernel
theorem dL_isSound_523 : decode cL_isSound 523 = .ok (.ifCond .eq 7, 3) := by decide +kernel
theorem dL_isSound_526 : decode cL_isSound 526 = .ok (.iconst 0, 1) := by decide +kernel
theorem dL_isSound_527 : decode cL_isSound 527 = .ok (.goto 15, 3) := by decide +kernel
theorem dL_isSound_530 : decode cL_isSound 530 = .ok (.aload_n 0, 1) := by decide +kernel
theorem dL_isSound_531 : decode cL_isSound 531 = .ok (.aload_n 0, 1) := by decide +kernel
theorem dL_isSound_532 : decode cL_isSound 532 = .ok (.iload 5, 2) := by decide +kernel
theorem dL_isSound_534 : decode cL_isSound 534 = .ok (.invokevirtual 175, 3) := by decide +kernel
theorem dL_isSound_537 : decode cL_isSound 537 = .ok (.iload 9, 2) := by decide +kernel
theorem dL_isSound_539 : decode cL_isSound 539 = .ok (.invokevirtual 142, 3) := by decide +kernel
theorem dL_isSound_542 : decode cL_isSound 542 = .ok (.isub, 1) := by decide +kernel
theorem dL_isSound_543 : decode cL_isSound 543 = .ok (.istore 12, 2) := by decide +kernel
theorem dL_isSound_545 : decode cL_isSound 545 = .ok (.iload 7, 2) := by decide +kernel
theorem dL_isSound_547 : decode cL_isSound 547 = .ok (.ifCond .lt 58, 3) := by decide +kernel
theorem dL_isSound_550 : decode cL_isSound 550 = .ok (.aload_n 0, 1) := by decide +kernel
theorem dL_isSound_551 : decode cL_isSound 551 = .ok (.iload 5, 2) := by decide +kernel
theorem dL_isSound_553 : decode cL_isSound 553 = .ok (.iload 7, 2) := by decide +kernel
theorem dL_isSound_555 : decode cL_isSound 555 = .ok (.invokevirtual 198, 3) := by decide +kernel
theorem dL_isSound_558 : decode cL_isSound 558 = .ok (.iload 11, 2) := by decide +kernel
theorem dL_isSound_560 : decode cL_isSound 560 = .ok (.ifCond .eq 7, 3) := by decide +kernel
theorem dL_isSound_563 : decode cL_isSound 563 = .ok (.iconst 0, 1) := by decide +kernel
theorem dL_isSound_564 : decode cL_isSound 564 = .ok (.goto 15, 3) := by decide +kernel
theorem dL_isSound_567 : decode cL_isSound 567 = .ok (.aload_n 0, 1) := by decide +kernel
theorem dL_isSound_568 : decode cL_isSound 568 = .ok (.aload_n 0, 1) := by decide +kernel
theorem dL_isSound_569 : decode cL_isSound 569 = .ok (.iload 5, 2) := by decide +kernel
theorem dL_isSound_571 : decode cL_isSound 571 = .ok (.invokevirtual 175, 3) := by decide +kernel
theorem dL_isSound_574 : decode cL_isSound 574 = .ok (.iload 7, 2) := by decide +kernel
theorem dL_isSound_576 : decode cL_isSound 576 = .ok (.invokevirtual 142, 3) := by decide +kernel
theorem dL_isSound_579 : decode cL_isSound 579 = .ok (.isub, 1) := by decide +kernel
theorem dL_isSound_580 : decode cL_isSound 580 = .ok (.istore 13, 2) := by decide +kernel
theorem dL_isSound_582 : decode cL_isSound 582 = .ok (.iload 13, 2) := by decide +kernel
theorem dL_isSound_584 : decode cL_isSound 584 = .ok (.iload 12, 2) := by decide +kernel
theorem dL_isSound_586 : decode cL_isSound 586 = .ok (.if_icmp .lt 17, 3) := by decide +kernel
theorem dL_isSound_589 : decode cL_isSound 589 = .ok (.iload 13, 2) := by decide +kernel
theorem dL_isSound_591 : decode cL_isSound 591 = .ok (.iload 12, 2) := by decide +kernel
theorem dL_isSound_593 : decode cL_isSound 593 = .ok (.if_icmp .ne 12, 3) := by decide +kernel
theorem dL_isSound_596 : decode cL_isSound 596 = .ok (.iload 7, 2) := by decide +kernel
theorem dL_isSound_598 : decode cL_isSound 598 = .ok (.iload 9, 2) := by decide +kernel
theorem dL_isSound_600 : decode cL_isSound 600 = .ok (.if_icmp .le 5, 3) := by decide +kernel
theorem dL_isSound_603 : decode cL_isSound 603 = .ok (.iconst 0, 1) := by decide +kernel
theorem dL_isSound_604 : decode cL_isSound 604 = .ok (.ireturn, 1) := by decide +kernel
theorem dL_isSound_605 : decode cL_isSound 605 = .ok (.iload 9, 2) := by decide +kernel
theorem dL_isSound_607 : decode cL_isSound 607 = .ok (.istore 7, 2) := by decide +kernel
theorem dL_isSound_609 : decode cL_isSound 609 = .ok (.iinc 8 1, 3) := by decide +kernel
theorem dL_isSound_612 : decode cL_isSound 612 = .ok (.goto (-248), 3) := by decide +kernel
theorem dL_isSound_615 : decode cL_isSound 615 = .ok (.iinc 5 1, 3) := by decide +kernel
theorem dL_isSound_618 : decode cL_isSound 618 = .ok (.goto (-373), 3) := by decide +kernel
theorem dL_isSound_621 : decode cL_isSound 621 = .ok (.iload_n 3, 1) := by decide +kernel
theorem dL_isSound_622 : decode cL_isSound 622 = .ok (.ifCond .ne 38, 3) := by decide +kernel
theorem dL_isSound_625 : decode cL_isSound 625 = .ok (.iload 4, 2) := by decide +kernel
theorem dL_isSound_627 : decode cL_isSound 627 = .ok (.aload_n 0, 1) := by decide +kernel
theorem dL_isSound_628 : decode cL_isSound 628 = .ok (.iconst 0, 1) := by decide +kernel
theorem dL_isSound_629 : decode cL_isSound 629 = .ok (.invokevirtual 113, 3) := by decide +kernel
theorem dL_isSound_632 : decode cL_isSound 632 = .ok (.if_icmp .ne 28, 3) := by decide +kernel
theorem dL_isSound_635 : decode cL_isSound 635 = .ok (.aload_n 0, 1) := by decide +kernel
theorem dL_isSound_636 : decode cL_isSound 636 = .ok (.iconst 1, 1) := by decide +kernel
theorem dL_isSound_637 : decode cL_isSound 637 = .ok (.invokevirtual 113, 3) := by decide +kernel
theorem dL_isSound_640 : decode cL_isSound 640 = .ok (.aload_n 0, 1) := by decide +kernel
theorem dL_isSound_641 : decode cL_isSound 641 = .ok (.iconst 0, 1) := by decide +kernel
theorem dL_isSound_642 : decode cL_isSound 642 = .ok (.invokevirtual 113, 3) := by decide +kernel
theorem dL_isSound_645 : decode cL_isSound 645 = .ok (.if_icmp .gt 15, 3) := by decide +kernel
theorem dL_isSound_648 : decode cL_isSound 648 = .ok (.aload_n 0, 1) := by decide +kernel
theorem dL_isSound_649 : decode cL_isSound 649 = .ok (.iconst 5, 1) := by decide +kernel
theorem dL_isSound_650 : decode cL_isSound 650 = .ok (.invokevirtual 113, 3) := by decide +kernel
theorem dL_isSound_653 : decode cL_isSound 653 = .ok (.ifCond .lt 7, 3) := by decide +kernel
theorem dL_isSound_656 : decode cL_isSound 656 = .ok (.iconst 1, 1) := by decide +kernel
theorem dL_isSound_657 : decode cL_isSound 657 = .ok (.goto 4, 3) := by decide +kernel
theorem dL_isSound_660 : decode cL_isSound 660 = .ok (.iconst 0, 1) := by decide +kernel
theorem dL_isSound_661 : decode cL_isSound 661 = .ok (.ireturn, 1) := by decide +kernel
theorem dL_isTick_0 : decode cL_isTick 0 = .ok (.aload_n 0, 1) := by decide +kernel
theorem dL_isTick_1 : decode cL_isTick 1 = .ok (.invokevirtual 102, 3) := by decide +kernel
theorem dL_isTick_4 : decode cL_isTick 4 = .ok (.istore_n 2, 1) := by decide +kernel
theorem dL_isTick_5 : decode cL_isTick 5 = .ok (.bipush 12, 2) := by decide +kernel
theorem dL_isTick_7 : decode cL_isTick 7 = .ok (.newarray .int, 2) := by decide +kernel
theorem dL_isTick_9 : decode cL_isTick 9 = .ok (.astore_n 3, 1) := by decide +kernel
theorem dL_isTick_10 : decode cL_isTick 10 = .ok (.bipush 12, 2) := by decide +kernel
theorem dL_isTick_12 : decode cL_isTick 12 = .ok (.newarray .int, 2) := by decide +kernel
theorem dL_isTick_14 : decode cL_isTick 14 = .ok (.astore 4, 2) := by decide +kernel
theorem dL_isTick_16 : decode cL_isTick 16 = .ok (.bipush 8, 2) := by decide +kernel
theorem dL_isTick_18 : decode cL_isTick 18 = .ok (.bipush 8, 2) := by decide +kernel
theorem dL_isTick_20 : decode cL_isTick 20 = .ok (.multianewarray 244 2, 4) := by decide +kernel
theorem dL_isTick_24 : decode cL_isTick 24 = .ok (.astore 5, 2) := by decide +kernel
theorem dL_isTick_26 : decode cL_isTick 26 = .ok (.iconst 0, 1) := by decide +kernel
theorem dL_isTick_27 : decode cL_isTick 27 = .ok (.istore 6, 2) := by decide +kernel
theorem dL_isTick_29 : decode cL_isTick 29 = .ok (.iload 6, 2) := by decide +kernel
theorem dL_isTick_31 : decode cL_isTick 31 = .ok (.iload_n 2, 1) := by decide +kernel
theorem dL_isTick_32 : decode cL_isTick 32 = .ok (.if_icmp .ge 30, 3) := by decide +kernel
theorem dL_isTick_35 : decode cL_isTick 35 = .ok (.aload_n 3, 1) := by decide +kernel
theorem dL_isTick_36 : decode cL_isTick 36 = .ok (.iload 6, 2) := by decide +kernel
theorem dL_isTick_38 : decode cL_isTick 38 = .ok (.aload_n 0, 1) := by decide +kernel
theorem dL_isTick_39 : decode cL_isTick 39 = .ok (.iload 6, 2) := by decide +kernel
theorem dL_isTick_41 : decode cL_isTick 41 = .ok (.invokevirtual 175, 3) := by decide +kernel
theorem dL_isTick_44 : decode cL_isTick 44 = .ok (.iastore, 1) := by decide +kernel
theorem dL_isTick_45 : decode cL_isTick 45 = .ok (.aload 4, 2) := by decide +kernel
theorem dL_isTick_47 : decode cL_isTick 47 = .ok (.iload 6, 2) := by decide +kernel
theorem dL_isTick_49 : decode cL_isTick 49 = .ok (.aload_n 0, 1) := by decide +kernel
theorem dL_isTick_50 : decode cL_isTick 50 = .ok (.iload 6, 2) := by decide +kernel
theorem dL_isTick_52 : decode cL_isTick 52 = .ok (.invokevirtual 170, 3) := by decide +kernel
theorem dL_isTick_55 : decode cL_isTick 55 = .ok (.iastore, 1) := by decide +kernel
theorem dL_isTick_56 : decode cL_isTick 56 = .ok (.iinc 6 1, 3) := by decide +kernel
theorem dL_isTick_59 : decode cL_isTick 59 = .ok (.goto (-30), 3) := by decide +kernel
theorem dL_isTick_62 : decode cL_isTick 62 = .ok (.iconst 0, 1) := by decide +kernel
theorem dL_isTick_63 : decode cL_isTick 63 = .ok (.istore 6, 2) := by decide +kernel
theorem dL_isTick_65 : decode cL_isTick 65 = .ok (.iload 6, 2) := by decide +kernel
theorem dL_isTick_67 : decode cL_isTick 67 = .ok (.aload_n 1, 1) := by decide +kernel
theorem dL_isTick_68 : decode cL_isTick 68 = .ok (.getfield 31, 3) := by decide +kernel
theorem dL_isTick_71 : decode cL_isTick 71 = .ok (.if_icmp .ge 43, 3) := by decide +kernel
theorem dL_isTick_74 : decode cL_isTick 74 = .ok (.iconst 0, 1) := by decide +kernel
theorem dL_isTick_75 : decode cL_isTick 75 = .ok (.istore 7, 2) := by decide +kernel
theorem dL_isTick_77 : decode cL_isTick 77 = .ok (.iload 7, 2) := by decide +kernel
theorem dL_isTick_79 : decode cL_isTick 79 = .ok (.aload_n 1, 1) := by decide +kernel
theorem dL_isTick_80 : decode cL_isTick 80 = .ok (.getfield 31, 3) := by decide +kernel
theorem dL_isTick_83 : decode cL_isTick 83 = .ok (.if_icmp .ge 25, 3) := by decide +kernel
theorem dL_isTick_86 : decode cL_isTick 86 = .ok (.aload 5, 2) := by decide +kernel
theorem dL_isTick_88 : decode cL_isTick 88 = .ok (.iload 6, 2) := by decide +kernel
theorem dL_isTick_90 : decode cL_isTick 90 = .ok (.aaload, 1) := by decide +kernel
theorem dL_isTick_91 : decode cL_isTick 91 = .ok (.iload 7, 2) := by decide +kernel
theorem dL_isTick_93 : decode cL_isTick 93 = .ok (.aload_n 0, 1) := by decide +kernel
theorem dL_isTick_94 : decode cL_isTick 94 = .ok (.iload 6, 2) := by decide +kernel
theorem dL_isTick_96 : decode cL_isTick 96 = .ok (.iload 7, 2) := by decide +kernel
theorem dL_isTick_98 : decode cL_isTick 98 = .ok (.invokevirtual 144, 3) := by decide +kernel
theorem dL_isTick_101 : decode cL_isTick 101 = .ok (.iastore, 1) := by decide +kernel
theorem dL_isTick_102 : decode cL_isTick 102 = .ok (.iinc 7 1, 3) := by decide +kernel
theorem dL_isTick_105 : decode cL_isTick 105 = .ok (.goto (-28), 3) := by decide +kernel
theorem dL_isTick_108 : decode cL_isTick 108 = .ok (.iinc 6 1, 3) := by decide +kernel
theorem dL_isTick_111 : decode cL_isTick 111 = .ok (.goto (-46), 3) := by decide +kernel
theorem dL_isTick_114 : decode cL_isTick 114 = .ok (.aload_n 0, 1) := by decide +kernel
theorem dL_isTick_115 : decode cL_isTick 115 = .ok (.iconst 0, 1) := by decide +kernel
theorem dL_isTick_116 : decode cL_isTick 116 = .ok (.invokevirtual 113, 3) := by decide +kernel
theorem dL_isTick_119 : decode cL_isTick 119 = .ok (.istore 6, 2) := by decide +kernel
theorem dL_isTick_121 : decode cL_isTick 121 = .ok (.aload_n 0, 1) := by decide +kernel
theorem dL_isTick_122 : decode cL_isTick 122 = .ok (.iconst 2, 1) := by decide +kernel
theorem dL_isTick_123 : decode cL_isTick 123 = .ok (.invokevirtual 113, 3) := by decide +kernel
theorem dL_isTick_126 : decode cL_isTick 126 = .ok (.aload_n 0, 1) := by decide +kernel
theorem dL_isTick_127 : decode cL_isTick 127 = .ok (.iconst 3, 1) := by decide +kernel
theorem dL_isTick_128 : decode cL_isTick 128 = .ok (.invokevirtual 113, 3) := by decide +kernel
theorem dL_isTick_131 : decode cL_isTick 131 = .ok (.iadd, 1) := by decide +kernel
theorem dL_isTick_132 : decode cL_isTick 132 = .ok (.istore 7, 2) := by decide +kernel
theorem dL_isTick_134 : decode cL_isTick 134 = .ok (.aload_n 0, 1) := by decide +kernel
theorem dL_isTick_135 : decode cL_isTick 135 = .ok (.invokevirtual 108, 3) := by decide +kernel
theorem dL_isTick_138 : decode cL_isTick 138 = .ok (.istore 8, 2) := by decide +kernel
theorem dL_isTick_140 : decode cL_isTick 140 = .ok (.aload_n 0, 1) := by decide +kernel
theorem dL_isTick_141 : decode cL_isTick 141 = .ok (.iconst 1, 1) := by decide +kernel
theorem dL_isTick_142 : decode cL_isTick 142 = .ok (.invokevirtual 245, 3) := by decide +kernel
theorem dL_isTick_145 : decode cL_isTick 145 = .ok (.istore 9, 2) := by decide +kernel
theorem dL_isTick_147 : decode cL_isTick 147 = .ok (.iload 9, 2) := by decide +kernel
theorem dL_isTick_149 : decode cL_isTick 149 = .ok (.aload_n 0, 1) := by decide +kernel
theorem dL_isTick_150 : decode cL_isTick 150 = .ok (.iconst 0, 1) := by decide +kernel
theorem dL_isTick_151 : decode cL_isTick 151 = .ok (.invokevirtual 113, 3) := by decide +kernel
theorem dL_isTick_154 : decode cL_isTick 154 = .ok (.iload 6, 2) := by decide +kernel
theorem dL_isTick_156 : decode cL_isTick 156 = .ok (.isub, 1) := by decide +kernel
theorem dL_isTick_157 : decode cL_isTick 157 = .ok (.if_icmp .ne 14, 3) := by decide +kernel
theorem dL_isTick_160 : decode cL_isTick 160 = .ok (.aload_n 0, 1) := by decide +kernel
theorem dL_isTick_161 : decode cL_isTick 161 = .ok (.invokevirtual 108, 3) := by decide +kernel
theorem dL_isTick_164 : decode cL_isTick 164 = .ok (.iload 8, 2) := by decide +kernel
theorem dL_isTick_166 : decode cL_isTick 166 = .ok (.iconst 1, 1) := by decide +kernel
theorem dL_isTick_167 : decode cL_isTick 167 = .ok (.iadd, 1) := by decide +kernel
theorem dL_isTick_168 : decode cL_isTick 168 = .ok (.if_icmp .eq 5, 3) := by decide +kernel
theorem dL_isTick_171 : decode cL_isTick 171 = .ok (.iconst 0, 1) := by decide +kernel
theorem dL_isTick_172 : decode cL_isTick 172 = .ok (.ireturn, 1) := by decide +kernel
theorem dL_isTick_173 : decode cL_isTick 173 = .ok (.iconst 0, 1) := by decide +kernel
theorem dL_isTick_174 : decode cL_isTick 174 = .ok (.istore 10, 2) := by decide +kernel
theorem dL_isTick_176 : decode cL_isTick 176 = .ok (.iconst 0, 1) := by decide +kernel
theorem dL_isTick_177 : decode cL_isTick 177 = .ok (.istore 11, 2) := by decide +kernel
theorem dL_isTick_179 : decode cL_isTick 179 = .ok (.iload 11, 2) := by decide +kernel
theorem dL_isTick_181 : decode cL_isTick 181 = .ok (.iload_n 2, 1) := by decide +kernel
theorem dL_isTick_182 : decode cL_isTick 182 = .ok (.if_icmp .ge 213, 3) := by decide +kernel
theorem dL_isTick_185 : decode cL_isTick 185 = .ok (.aload 4, 2) := by decide +kernel
theorem dL_isTick_187 : decode cL_isTick 187 = .ok (.iload 11, 2) := by decide +kernel
theorem dL_isTick_189 : decode cL_isTick 189 = .ok (.iaload, 1) := by decide +kernel
theorem dL_isTick_190 : decode cL_isTick 190 = .ok (.iconst 1, 1) := by decide +kernel
theorem dL_isTick_191 : decode cL_isTick 191 = .ok (.if_icmp .ne 16, 3) := by decide +kernel
theorem dL_isTick_194 : decode cL_isTick 194 = .ok (.aload_n 0, 1) := by decide +kernel
theorem dL_isTick_195 : decode cL_isTick 195 = .ok (.iload 11, 2) := by decide +kernel
theorem dL_isTick_197 : decode cL_isTick 197 = .ok (.invokevirtual 170, 3) := by decide +kernel
theorem dL_isTick_200 : decode cL_isTick 200 = .ok (.iconst 1, 1) := by decide +kernel
theorem dL_isTick_201 : decode cL_isTick 201 = .ok (.if_icmp .eq 6, 3) := by decide +kernel
theorem dL_isTick_204 : decode cL_isTick 204 = .ok (.iinc 10 1, 3) := by decide +kernel
theorem dL_isTick_207 : decode cL_isTick 207 = .ok (.aload 4, 2) := by decide +kernel
theorem dL_isTick_209 : decode cL_isTick 209 = .ok (.iload 11, 2) := by decide +kernel
theorem dL_isTick_211 : decode cL_isTick 211 = .ok (.iaload, 1) := by decide +kernel
theorem dL_isTick_212 : decode cL_isTick 212 = .ok (.ifCond .ne 12, 3) := by decide +kernel
theorem dL_isTick_215 : decode cL_isTick 215 = .ok (.aload_n 0, 1) := by decide +kernel
theorem dL_isTick_216 : decode cL_isTick 216 = .ok (.iload 11, 2) := by decide +kernel
theorem dL_isTick_218 : decode cL_isTick 218 = .ok (.invokevirtual 170, 3) := by decide +kernel
theorem dL_isTick_221 : decode cL_isTick 221 = .ok (.ifCond .ne 22, 3) := by decide +kernel
theorem dL_isTick_224 : decode cL_isTick 224 = .ok (.aload 4, 2) := by decide +kernel
theorem dL_isTick_226 : decode cL_isTick 226 = .ok (.iload 11, 2) := by decide +kernel
theorem dL_isTick_228 : decode cL_isTick 228 = .ok (.iaload, 1) := by decide +kernel
theorem dL_isTick_229 : decode cL_isTick 229 = .ok (.iconst 1, 1) := by decide +kernel
theorem dL_isTick_230 : decode cL_isTick 230 = .ok (.if_icmp .ne 15, 3) := by decide +kernel
theorem dL_isTick_233 : decode cL_isTick 233 = .ok (.aload_n 0, 1) := by decide +kernel
theorem dL_isTick_234 : decode cL_isTick 234 = .ok (.iload 11, 2) := by decide +kernel
theorem dL_isTick_236 : decode cL_isTick 236 = .ok (.invokevirtual 170, 3) := by decide +kernel
theorem dL_isTick_239 : decode cL_isTick 239 = .ok (.iconst 2, 1) := by decide +kernel
theorem dL_isTick_240 : decode cL_isTick 240 = .ok (.if_icmp .ne 5, 3) := by decide +kernel
theorem dL_isTick_243 : decode cL_isTick 243 = .ok (.iconst 0, 1) := by decide +kernel
theorem dL_isTick_244 : decode cL_isTick 244 = .ok (.ireturn, 1) := by decide +kernel
theorem dL_isTick_245 : decode cL_isTick 245 = .ok (.aload 4, 2) := by decide +kernel
theorem dL_isTick_247 : decode cL_isTick 247 = .ok (.iload 11, 2) := by decide +kernel
theorem dL_isTick_249 : decode cL_isTick 249 = .ok (.iaload, 1) := by decide +kernel
theorem dL_isTick_250 : decode cL_isTick 250 = .ok (.iconst 1, 1) := by decide +kernel
theorem dL_isTick_251 : decode cL_isTick 251 = .ok (.if_icmp .ne 138, 3) := by decide +kernel
theorem dL_isTick_254 : decode cL_isTick 254 = .ok (.aload_n 0, 1) := by decide +kernel
theorem dL_isTick_255 : decode cL_isTick 255 = .ok (.iload 11, 2) := by decide +kernel
theorem dL_isTick_257 : decode cL_isTick 257 = .ok (.invokevirtual 170, 3) := by decide +kernel
theorem dL_isTick_260 : decode cL_isTick 260 = .ok (.iconst 1, 1) := by decide +kernel
theorem dL_isTick_261 : decode cL_isTick 261 = .ok (.if_icmp .ne 128, 3) := by decide +kernel
theorem dL_isTick_264 : decode cL_isTick 264 = .ok (.aload_n 0, 1) := by decide +kernel
theorem dL_isTick_265 : decode cL_isTick 265 = .ok (.iload 11, 2) := by decide +kernel
theorem dL_isTick_267 : decode cL_isTick 267 = .ok (.invokevirtual 175, 3) := by decide +kernel
theorem dL_isTick_270 : decode cL_isTick 270 = .ok (.aload_n 3, 1) := by decide +kernel
theorem dL_isTick_271 : decode cL_isTick 271 = .ok (.iload 11, 2) := by decide +kernel
theorem dL_isTick_273 : decode cL_isTick 273 = .ok (.iaload, 1) := by decide +kernel
theorem dL_isTick_274 : decode cL_isTick 274 = .ok (.if_icmp .ne 6, 3) := by decide +kernel
theorem dL_isTick_277 : decode cL_isTick 277 = .ok (.goto 112, 3) := by decide +kernel
theorem dL_isTick_280 : decode cL_isTick 280 = .ok (.iconst 0, 1) := by decide +kernel
theorem dL_isTick_281 : decode cL_isTick 281 = .ok (.istore 12, 2) := by decide +kernel
theorem dL_isTick_283 : decode cL_isTick 283 = .ok (.iconst 0, 1) := by decide +kernel
theorem dL_isTick_284 : decode cL_isTick 284 = .ok (.istore 13, 2) := by decide +kernel
theorem dL_isTick_286 : decode cL_isTick 286 = .ok (.iload 13, 2) := by decide +kernel
theorem dL_isTick_288 : decode cL_isTick 288 = .ok (.aload_n 1, 1) := by decide +kernel
theorem dL_isTick_289 : decode cL_isTick 289 = .ok (.getfield 31, 3) := by decide +kernel
theorem dL_isTick_292 : decode cL_isTick 292 = .ok (.if_icmp .ge 90, 3) := by decide +kernel
theorem dL_isTick_295 : decode cL_isTick 295 = .ok (.iload 13, 2) := by decide +kernel
theorem dL_isTick_297 : decode cL_isTick 297 = .ok (.aload_n 3, 1) := by decide +kernel
theorem dL_isTick_298 : decode cL_isTick 298 = .ok (.iload 11, 2) := by decide +kernel
theorem dL_isTick_300 : decode cL_isTick 300 = .ok (.iaload, 1) := by decide +kernel
theorem dL_isTick_301 : decode cL_isTick 301 = .ok (.if_icmp .eq 26, 3) := by decide +kernel
theorem dL_isTick_304 : decode cL_isTick 304 = .ok (.aload_n 0, 1) := by decide +kernel
theorem dL_isTick_305 : decode cL_isTick 305 = .ok (.aload_n 3, 1) := by decide +kernel
theorem dL_isTick_306 : decode cL_isTick 306 = .ok (.iload 11, 2) := by decide +kernel
theorem dL_isTick_308 : decode cL_isTick 308 = .ok (.iaload, 1) := by decide +kernel
theorem dL_isTick_309 : decode cL_isTick 309 = .ok (.iload 13, 2) := by decide +kernel
theorem dL_isTick_311 : decode cL_isTick 311 = .ok (.invokevirtual 144, 3) := by decide +kernel
theorem dL_isTick_314 : decode cL_isTick 314 = .ok (.aload 5, 2) := by decide +kernel
theorem dL_isTick_316 : decode cL_isTick 316 = .ok (.aload_n 3, 1) := by decide +kernel
theorem dL_isTick_317 : decode cL_isTick 317 = .ok (.iload 11, 2) := by decide +kernel
theorem dL_isTick_319 : decode cL_isTick 319 = .ok (.iaload, 1) := by decide +kernel
theorem dL_isTick_320 : decode cL_isTick 320 = .ok (.aaload, 1) := by decide +kernel
theorem dL_isTick_321 : decode cL_isTick 321 = .ok (.iload 13, 2) := by decide +kernel
theorem dL_isTick_323 : decode cL_isTick 323 = .ok (.iaload, 1) := by decide +kernel
theorem dL_isTick_324 : decode cL_isTick 324 = .ok (.if_icmp .le 7, 3) := by decide +kernel
theorem dL_isTick_327 : decode cL_isTick 327 = .ok (.iconst 1, 1) := by decide +kernel
theorem dL_isTick_328 : decode cL_isTick 328 = .ok (.goto 4, 3) := by decide +kernel
theorem dL_isTick_331 : decode cL_isTick 331 = .ok (.iconst 0, 1) := by decide +kernel
theorem dL_isTick_332 : decode cL_isTick 332 = .ok (.istore 14, 2) := by decide +kernel
theorem dL_isTick_334 : decode cL_isTick 334 = .ok (.iload 12, 2) := by decide +kernel
theorem dL_isTick_336 : decode cL_isTick 336 = .ok (.iload 14, 2) := by decide +kernel
theorem dL_isTick_338 : decode cL_isTick 338 = .ok (.ifCond .eq 34, 3) := by decide +kernel
theorem dL_isTick_341 : decode cL_isTick 341 = .ok (.aload_n 0, 1) := by decide +kernel
theorem dL_isTick_342 : decode cL_isTick 342 = .ok (.iload 13, 2) := by decide +kernel
theorem dL_isTick_344 : decode cL_isTick 344 = .ok (.aload_n 0, 1) := by decide +kernel
theorem dL_isTick_345 : decode cL_isTick 345 = .ok (.iload 11, 2) := by decide +kernel
theorem dL_isTick_347 : decode cL_isTick 347 = .ok (.invokevirtual 175, 3) := by decide +kernel
theorem dL_isTick_350 : decode cL_isTick 350 = .ok (.invokevirtual 144, 3) := by decide +kernel
theorem dL_isTick_353 : decode cL_isTick 353 = .ok (.aload 5, 2) := by decide +kernel
theorem dL_isTick_355 : decode cL_isTick 355 = .ok (.iload 13, 2) := by decide +kernel
theorem dL_isTick_357 : decode cL_isTick 357 = .ok (.aaload, 1) := by decide +kernel
theorem dL_isTick_358 : decode cL_isTick 358 = .ok (.aload_n 0, 1) := by decide +kernel
theorem dL_isTick_359 : decode cL_isTick 359 = .ok (.iload 11, 2) := by decide +kernel
theorem dL_isTick_361 : decode cL_isTick 361 = .ok (.invokevirtual 175, 3) := by decide +kernel
theorem dL_isTick_364 : decode cL_isTick 364 = .ok (.iaload, 1) := by decide +kernel
theorem dL_isTick_365 : decode cL_isTick 365 = .ok (.if_icmp .le 7, 3) := by decide +kernel
theorem dL_isTick_368 : decode cL_isTick 368 = .ok (.iconst 1, 1) := by decide +kernel
theorem dL_isTick_369 : decode cL_isTick 369 = .ok (.goto 4, 3) := by decide +kernel
theorem dL_isTick_372 : decode cL_isTick 372 = .ok (.iconst 0, 1) := by decide +kernel
theorem dL_isTick_373 : decode cL_isTick 373 = .ok (.ior, 1) := by decide +kernel
theorem dL_isTick_374 : decode cL_isTick 374 = .ok (.istore 12, 2) := by decide +kernel
theorem dL_isTick_376 : decode cL_isTick 376 = .ok (.iinc 13 1, 3) := by decide +kernel
theorem dL_isTick_379 : decode cL_isTick 379 = .ok (.goto (-93), 3) := by decide +kernel
theorem dL_isTick_382 : decode cL_isTick 382 = .ok (.iload 12, 2) := by decide +kernel
theorem dL_isTick_384 : decode cL_isTick 384 = .ok (.ifCond .ne 5, 3) := by decide +kernel
theorem dL_isTick_387 : decode cL_isTick 387 = .ok (.iconst 0, 1) := by decide +kernel
theorem dL_isTick_388 : decode cL_isTick 388 = .ok (.ireturn, 1) := by decide +kernel
theorem dL_isTick_389 : decode cL_isTick 389 = .ok (.iinc 11 1, 3) := by decide +kernel
theorem dL_isTick_392 : decode cL_isTick 392 = .ok (.goto (-213), 3) := by decide +kernel
theorem dL_isTick_395 : decode cL_isTick 395 = .ok (.aload_n 0, 1) := by decide +kernel
theorem dL_isTick_396 : decode cL_isTick 396 = .ok (.iconst 2, 1) := by decide +kernel
theorem dL_isTick_397 : decode cL_isTick 397 = .ok (.invokevirtual 113, 3) := by decide +kernel
theorem dL_isTick_400 : decode cL_isTick 400 = .ok (.aload_n 0, 1) := by decide +kernel
theorem dL_isTick_401 : decode cL_isTick 401 = .ok (.iconst 3, 1) := by decide +kernel
theorem dL_isTick_402 : decode cL_isTick 402 = .ok (.invokevirtual 113, 3) := by decide +kernel
theorem dL_isTick_405 : decode cL_isTick 405 = .ok (.iadd, 1) := by decide +kernel
theorem dL_isTick_406 : decode cL_isTick 406 = .ok (.iload 7, 2) := by decide +kernel
theorem dL_isTick_408 : decode cL_isTick 408 = .ok (.isub, 1) := by decide +kernel
theorem dL_isTick_409 : decode cL_isTick 409 = .ok (.iload 10, 2) := by decide +kernel
theorem dL_isTick_411 : decode cL_isTick 411 = .ok (.if_icmp .ne 7, 3) := by decide +kernel
theorem dL_isTick_414 : decode cL_isTick 414 = .ok (.iconst 1, 1) := by decide +kernel
theorem dL_isTick_415 : decode cL_isTick 415 = .ok (.goto 4, 3) := by decide +kernel
theorem dL_isTick_418 : decode cL_isTick 418 = .ok (.iconst 0, 1) := by decide +kernel
theorem dL_isTick_419 : decode cL_isTick 419 = .ok (.ireturn, 1) := by decide +kernel
theorem dL_isForecast_0 : decode cL_isForecast 0 = .ok (.aload_n 0, 1) := by decide +kernel
theorem dL_isForecast_1 : decode cL_isForecast 1 = .ok (.aload_n 1, 1) := by decide +kernel
theorem dL_isForecast_2 : decode cL_isForecast 2 = .ok (.invokestatic 248, 3) := by decide +kernel
theorem dL_isForecast_5 : decode cL_isForecast 5 = .ok (.istore 4, 2) := by decide +kernel
theorem dL_isForecast_7 : decode cL_isForecast 7 = .ok (.aload_n 0, 1) := by decide +kernel
theorem dL_isForecast_8 : decode cL_isForecast 8 = .ok (.invokevirtual 252, 3) := by decide +kernel
theorem dL_isForecast_11 : decode cL_isForecast 11 = .ok (.istore 5, 2) := by decide +kernel
theorem dL_isForecast_13 : decode cL_isForecast 13 = .ok (.aload_n 0, 1) := by decide +kernel
theorem dL_isForecast_14 : decode cL_isForecast 14 = .ok (.iload_n 2, 1) := by decide +kernel
theorem dL_isForecast_15 : decode cL_isForecast 15 = .ok (.iload_n 3, 1) := by decide +kernel
theorem dL_isForecast_16 : decode cL_isForecast 16 = .ok (.invokevirtual 255, 3) := by decide +kernel
theorem dL_isForecast_19 : decode cL_isForecast 19 = .ok (.istore 6, 2) := by decide +kernel
theorem dL_isForecast_21 : decode cL_isForecast 21 = .ok (.aload_n 0, 1) := by decide +kernel
theorem dL_isForecast_22 : decode cL_isForecast 22 = .ok (.aload_n 1, 1) := by decide +kernel
theorem dL_isForecast_23 : decode cL_isForecast 23 = .ok (.invokestatic 248, 3) := by decide +kernel
theorem dL_isForecast_26 : decode cL_isForecast 26 = .ok (.iload 4, 2) := by decide +kernel
theorem dL_isForecast_28 : decode cL_isForecast 28 = .ok (.if_icmp .ne 12, 3) := by decide +kernel
theorem dL_isForecast_31 : decode cL_isForecast 31 = .ok (.aload_n 0, 1) := by decide +kernel
theorem dL_isForecast_32 : decode cL_isForecast 32 = .ok (.invokevirtual 252, 3) := by decide +kernel
theorem dL_isForecast_35 : decode cL_isForecast 35 = .ok (.iload 5, 2) := by decide +kernel
theorem dL_isForecast_37 : decode cL_isForecast 37 = .ok (.if_icmp .eq 5, 3) := by decide +kernel
theorem dL_isForecast_40 : decode cL_isForecast 40 = .ok (.iconst 0, 1) := by decide +kernel
theorem dL_isForecast_41 : decode cL_isForecast 41 = .ok (.ireturn, 1) := by decide +kernel
theorem dL_isForecast_42 : decode cL_isForecast 42 = .ok (.aload_n 0, 1) := by decide +kernel
theorem dL_isForecast_43 : decode cL_isForecast 43 = .ok (.iload_n 3, 1) := by decide +kernel
theorem dL_isForecast_44 : decode cL_isForecast 44 = .ok (.invokevirtual 245, 3) := by decide +kernel
theorem dL_isForecast_47 : decode cL_isForecast 47 = .ok (.pop, 1) := by decide +kernel
theorem dL_isForecast_48 : decode cL_isForecast 48 = .ok (.aload_n 0, 1) := by decide +kernel
theorem dL_isForecast_49 : decode cL_isForecast 49 = .ok (.iload_n 2, 1) := by decide +kernel
theorem dL_isForecast_50 : decode cL_isForecast 50 = .ok (.invokevirtual 175, 3) := by decide +kernel
theorem dL_isForecast_53 : decode cL_isForecast 53 = .ok (.iload 6, 2) := by decide +kernel
theorem dL_isForecast_55 : decode cL_isForecast 55 = .ok (.if_icmp .ne 7, 3) := by decide +kernel
theorem dL_isForecast_58 : decode cL_isForecast 58 = .ok (.iconst 1, 1) := by decide +kernel
theorem dL_isForecast_59 : decode cL_isForecast 59 = .ok (.goto 4, 3) := by decide +kernel
theorem dL_isForecast_62 : decode cL_isForecast 62 = .ok (.iconst 0, 1) := by decide +kernel
theorem dL_isForecast_63 : decode cL_isForecast 63 = .ok (.istore 7, 2) := by decide +kernel
theorem dL_isForecast_65 : decode cL_isForecast 65 = .ok (.iload 7, 2) := by decide +kernel
theorem dL_isForecast_67 : decode cL_isForecast 67 = .ok (.ifCond .eq 24, 3) := by decide +kernel
theorem dL_isForecast_70 : decode cL_isForecast 70 = .ok (.aload_n 0, 1) := by decide +kernel
theorem dL_isForecast_71 : decode cL_isForecast 71 = .ok (.invokevirtual 258, 3) := by decide +kernel
theorem dL_isForecast_74 : decode cL_isForecast 74 = .ok (.ifCond .lt 17, 3) := by decide +kernel
theorem dL_isForecast_77 : decode cL_isForecast 77 = .ok (.aload_n 0, 1) := by decide +kernel
theorem dL_isForecast_78 : decode cL_isForecast 78 = .ok (.aload_n 1, 1) := by decide +kernel
theorem dL_isForecast_79 : decode cL_isForecast 79 = .ok (.invokestatic 248, 3) := by decide +kernel
theorem dL_isForecast_82 : decode cL_isForecast 82 = .ok (.iload 4, 2) := by decide +kernel
theorem dL_isForecast_84 : decode cL_isForecast 84 = .ok (.if_icmp .ne 7, 3) := by decide +kernel
theorem dL_isForecast_87 : decode cL_isForecast 87 = .ok (.iconst 1, 1) := by decide +kernel
theorem dL_isForecast_88 : decode cL_isForecast 88 = .ok (.goto 4, 3) := by decide +kernel
theorem dL_isForecast_91 : decode cL_isForecast 91 = .ok (.iconst 0, 1) := by decide +kernel
theorem dL_isForecast_92 : decode cL_isForecast 92 = .ok (.ireturn, 1) := by decide +kernel
theorem dL_isBest_0 : decode cL_isBest 0 = .ok (.aload_n 0, 1) := by decide +kernel
theorem dL_isBest_1 : decode cL_isBest 1 = .ok (.aload_n 1, 1) := by decide +kernel
theorem dL_isBest_2 : decode cL_isBest 2 = .ok (.invokestatic 248, 3) := by decide +kernel
theorem dL_isBest_5 : decode cL_isBest 5 = .ok (.istore 5, 2) := by decide +kernel
theorem dL_isBest_7 : decode cL_isBest 7 = .ok (.aload_n 0, 1) := by decide +kernel
theorem dL_isBest_8 : decode cL_isBest 8 = .ok (.iload_n 2, 1) := by decide +kernel
theorem dL_isBest_9 : decode cL_isBest 9 = .ok (.iload_n 3, 1) := by decide +kernel
theorem dL_isBest_10 : decode cL_isBest 10 = .ok (.iload 4, 2) := by decide +kernel
theorem dL_isBest_12 : decode cL_isBest 12 = .ok (.invokevirtual 261, 3) := by decide +kernel
theorem dL_isBest_15 : decode cL_isBest 15 = .ok (.istore 6, 2) := by decide +kernel
theorem dL_isBest_17 : decode cL_isBest 17 = .ok (.aload_n 0, 1) := by decide +kernel
theorem dL_isBest_18 : decode cL_isBest 18 = .ok (.aload_n 1, 1) := by decide +kernel
theorem dL_isBest_19 : decode cL_isBest 19 = .ok (.invokestatic 248, 3) := by decide +kernel
theorem dL_isBest_22 : decode cL_isBest 22 = .ok (.iload 5, 2) := by decide +kernel
theorem dL_isBest_24 : decode cL_isBest 24 = .ok (.if_icmp .eq 5, 3) := by decide +kernel
theorem dL_isBest_27 : decode cL_isBest 27 = .ok (.iconst 0, 1) := by decide +kernel
theorem dL_isBest_28 : decode cL_isBest 28 = .ok (.ireturn, 1) := by decide +kernel
theorem dL_isBest_29 : decode cL_isBest 29 = .ok (.aload_n 0, 1) := by decide +kernel
theorem dL_isBest_30 : decode cL_isBest 30 = .ok (.iload_n 2, 1) := by decide +kernel
theorem dL_isBest_31 : decode cL_isBest 31 = .ok (.iload_n 3, 1) := by decide +kernel
theorem dL_isBest_32 : decode cL_isBest 32 = .ok (.invokevirtual 142, 3) := by decide +kernel
theorem dL_isBest_35 : decode cL_isBest 35 = .ok (.ifCond .ge 16, 3) := by decide +kernel
theorem dL_isBest_38 : decode cL_isBest 38 = .ok (.iload 6, 2) := by decide +kernel
theorem dL_isBest_40 : decode cL_isBest 40 = .ok (.bipush (-2), 2) := by decide +kernel
theorem dL_isBest_42 : decode cL_isBest 42 = .ok (.if_icmp .ne 7, 3) := by decide +kernel
theorem dL_isBest_45 : decode cL_isBest 45 = .ok (.iconst 1, 1) := by decide +kernel
theorem dL_isBest_46 : decode cL_isBest 46 = .ok (.goto 4, 3) := by decide +kernel
theorem dL_isBest_49 : decode cL_isBest 49 = .ok (.iconst 0, 1) := by decide +kernel
theorem dL_isBest_50 : decode cL_isBest 50 = .ok (.ireturn, 1) := by decide +kernel
theorem dL_isBest_51 : decode cL_isBest 51 = .ok (.iconst (-1), 1) := by decide +kernel
theorem dL_isBest_52 : decode cL_isBest 52 = .ok (.istore 7, 2) := by decide +kernel
theorem dL_isBest_54 : decode cL_isBest 54 = .ok (.iconst (-1), 1) := by decide +kernel
theorem dL_isBest_55 : decode cL_isBest 55 = .ok (.istore 8, 2) := by decide +kernel
theorem dL_isBest_57 : decode cL_isBest 57 = .ok (.iconst (-1), 1) := by decide +kernel
theorem dL_isBest_58 : decode cL_isBest 58 = .ok (.istore 9, 2) := by decide +kernel
theorem dL_isBest_60 : decode cL_isBest 60 = .ok (.iconst 0, 1) := by decide +kernel
theorem dL_isBest_61 : decode cL_isBest 61 = .ok (.istore 10, 2) := by decide +kernel
theorem dL_isBest_63 : decode cL_isBest 63 = .ok (.iload 10, 2) := by decide +kernel
theorem dL_isBest_65 : decode cL_isBest 65 = .ok (.bipush 30, 2) := by decide +kernel
theorem dL_isBest_67 : decode cL_isBest 67 = .ok (.if_icmp .gt 94, 3) := by decide +kernel
theorem dL_isBest_70 : decode cL_isBest 70 = .ok (.aload_n 0, 1) := by decide +kernel
theorem dL_isBest_71 : decode cL_isBest 71 = .ok (.iload_n 2, 1) := by decide +kernel
theorem dL_isBest_72 : decode cL_isBest 72 = .ok (.iload_n 3, 1) := by decide +kernel
theorem dL_isBest_73 : decode cL_isBest 73 = .ok (.iload 10, 2) := by decide +kernel
theorem dL_isBest_75 : decode cL_isBest 75 = .ok (.invokevirtual 241, 3) := by decide +kernel
theorem dL_isBest_78 : decode cL_isBest 78 = .ok (.pop, 1) := by decide +kernel
theorem dL_isBest_79 : decode cL_isBest 79 = .ok (.aload_n 0, 1) := by decide +kernel
theorem dL_isBest_80 : decode cL_isBest 80 = .ok (.iconst 3, 1) := by decide +kernel
theorem dL_isBest_81 : decode cL_isBest 81 = .ok (.invokevirtual 113, 3) := by decide +kernel
theorem dL_isBest_84 : decode cL_isBest 84 = .ok (.istore 11, 2) := by decide +kernel
theorem dL_isBest_86 : decode cL_isBest 86 = .ok (.aload_n 0, 1) := by decide +kernel
theorem dL_isBest_87 : decode cL_isBest 87 = .ok (.iload 4, 2) := by decide +kernel
theorem dL_isBest_89 : decode cL_isBest 89 = .ok (.invokevirtual 245, 3) := by decide +kernel
theorem dL_isBest_92 : decode cL_isBest 92 = .ok (.istore 12, 2) := by decide +kernel
theorem dL_isBest_94 : decode cL_isBest 94 = .ok (.aload_n 0, 1) := by decide +kernel
theorem dL_isBest_95 : decode cL_isBest 95 = .ok (.iconst 3, 1) := by decide +kernel
theorem dL_isBest_96 : decode cL_isBest 96 = .ok (.invokevirtual 113, 3) := by decide +kernel
theorem dL_isBest_99 : decode cL_isBest 99 = .ok (.iload 11, 2) := by decide +kernel
theorem dL_isBest_101 : decode cL_isBest 101 = .ok (.isub, 1) := by decide +kernel
theorem dL_isBest_102 : decode cL_isBest 102 = .ok (.istore 11, 2) := by decide +kernel
theorem dL_isBest_104 : decode cL_isBest 104 = .ok (.aload_n 0, 1) := by decide +kernel
theorem dL_isBest_105 : decode cL_isBest 105 = .ok (.invokevirtual 258, 3) := by decide +kernel
theorem dL_isBest_108 : decode cL_isBest 108 = .ok (.pop, 1) := by decide +kernel
theorem dL_isBest_109 : decode cL_isBest 109 = .ok (.aload_n 0, 1) := by decide +kernel
theorem dL_isBest_110 : decode cL_isBest 110 = .ok (.invokevirtual 258, 3) := by decide +kernel
theorem dL_isBest_113 : decode cL_isBest 113 = .ok (.pop, 1) := by decide +kernel
theorem dL_isBest_114 : decode cL_isBest 114 = .ok (.iload 9, 2) := by decide +kernel
theorem dL_isBest_116 : decode cL_isBest 116 = .ok (.ifCond .lt 27, 3) := by decide +kernel
theorem dL_isBest_119 : decode cL_isBest 119 = .ok (.iload 11, 2) := by decide +kernel
theorem dL_isBest_121 : decode cL_isBest 121 = .ok (.iload 7, 2) := by decide +kernel
theorem dL_isBest_123 : decode cL_isBest 123 = .ok (.if_icmp .gt 32, 3) := by decide +kernel
theorem dL_isBest_126 : decode cL_isBest 126 = .ok (.iload 11, 2) := by decide +kernel
theorem dL_isBest_128 : decode cL_isBest 128 = .ok (.iload 7, 2) := by decide +kernel
theorem dL_isBest_130 : decode cL_isBest 130 = .ok (.if_icmp .ne 13, 3) := by decide +kernel
theorem dL_isBest_133 : decode cL_isBest 133 = .ok (.iload 12, 2) := by decide +kernel
theorem dL_isBest_135 : decode cL_isBest 135 = .ok (.iload 8, 2) := by decide +kernel
theorem dL_isBest_137 : decode cL_isBest 137 = .ok (.if_icmp .lt 6, 3) := by decide +kernel
theorem dL_isBest_140 : decode cL_isBest 140 = .ok (.goto 15, 3) := by decide +kernel
theorem dL_isBest_143 : decode cL_isBest 143 = .ok (.iload 10, 2) := by decide +kernel
theorem dL_isBest_145 : decode cL_isBest 145 = .ok (.istore 9, 2) := by decide +kernel
theorem dL_isBest_147 : decode cL_isBest 147 = .ok (.iload 11, 2) := by decide +kernel
theorem dL_isBest_149 : decode cL_isBest 149 = .ok (.istore 7, 2) := by decide +kernel
theorem dL_isBest_151 : decode cL_isBest 151 = .ok (.iload 12, 2) := by decide +kernel
theorem dL_isBest_153 : decode cL_isBest 153 = .ok (.istore 8, 2) := by decide +kernel
theorem dL_isBest_155 : decode cL_isBest 155 = .ok (.iinc 10 1, 3) := by decide +kernel
theorem dL_isBest_158 : decode cL_isBest 158 = .ok (.goto (-95), 3) := by decide +kernel
theorem dL_isBest_161 : decode cL_isBest 161 = .ok (.iload 6, 2) := by decide +kernel
theorem dL_isBest_163 : decode cL_isBest 163 = .ok (.iload 9, 2) := by decide +kernel
theorem dL_isBest_165 : decode cL_isBest 165 = .ok (.if_icmp .ne 7, 3) := by decide +kernel
theorem dL_isBest_168 : decode cL_isBest 168 = .ok (.iconst 1, 1) := by decide +kernel
theorem dL_isBest_169 : decode cL_isBest 169 = .ok (.goto 4, 3) := by decide +kernel
theorem dL_isBest_172 : decode cL_isBest 172 = .ok (.iconst 0, 1) := by decide +kernel
theorem dL_isBest_173 : decode cL_isBest 173 = .ok (.ireturn, 1) := by decide +kernel
theorem dL_law_0 : decode cL_law 0 = .ok (.new 9, 3) := by decide +kernel
theorem dL_law_3 : decode cL_law 3 = .ok (.dup, 1) := by decide +kernel
theorem dL_law_4 : decode cL_law 4 = .ok (.invokespecial 264, 3) := by decide +kernel
theorem dL_law_7 : decode cL_law 7 = .ok (.astore_n 1, 1) := by decide +kernel
theorem dL_law_8 : decode cL_law 8 = .ok (.bipush 6, 2) := by decide +kernel
theorem dL_law_10 : decode cL_law 10 = .ok (.newarray .int, 2) := by decide +kernel
theorem dL_law_12 : decode cL_law 12 = .ok (.astore_n 2, 1) := by decide +kernel
theorem dL_law_13 : decode cL_law 13 = .ok (.aload_n 1, 1) := by decide +kernel
theorem dL_law_14 : decode cL_law 14 = .ok (.bipush 60, 2) := by decide +kernel
theorem dL_law_16 : decode cL_law 16 = .ok (.invokevirtual 245, 3) := by decide +kernel
theorem dL_law_19 : decode cL_law 19 = .ok (.ifCond .ne 26, 3) := by decide +kernel
theorem dL_law_22 : decode cL_law 22 = .ok (.aload_n 1, 1) := by decide +kernel
theorem dL_law_23 : decode cL_law 23 = .ok (.invokevirtual 108, 3) := by decide +kernel
theorem dL_law_26 : decode cL_law 26 = .ok (.bipush 60, 2) := by decide +kernel
theorem dL_law_28 : decode cL_law 28 = .ok (.if_icmp .ne 17, 3) := by decide +kernel
theorem dL_law_31 : decode cL_law 31 = .ok (.aload_n 1, 1) := by decide +kernel
theorem dL_law_32 : decode cL_law 32 = .ok (.invokevirtual 258, 3) := by decide +kernel
theorem dL_law_35 : decode cL_law 35 = .ok (.ifCond .ne 10, 3) := by decide +kernel
theorem dL_law_38 : decode cL_law 38 = .ok (.aload_n 1, 1) := by decide +kernel
theorem dL_law_39 : decode cL_law 39 = .ok (.invokevirtual 108, 3) := by decide +kernel
theorem dL_law_42 : decode cL_law 42 = .ok (.ifCond .eq 5, 3) := by decide +kernel
theorem dL_law_45 : decode cL_law 45 = .ok (.iconst 0, 1) := by decide +kernel
theorem dL_law_46 : decode cL_law 46 = .ok (.ireturn, 1) := by decide +kernel
theorem dL_law_47 : decode cL_law 47 = .ok (.aload_n 0, 1) := by decide +kernel
theorem dL_law_48 : decode cL_law 48 = .ok (.iconst 0, 1) := by decide +kernel
theorem dL_law_49 : decode cL_law 49 = .ok (.invokestatic 265, 3) := by decide +kernel
theorem dL_law_52 : decode cL_law 52 = .ok (.astore_n 3, 1) := by decide +kernel
theorem dL_law_53 : decode cL_law 53 = .ok (.aload_n 1, 1) := by decide +kernel
theorem dL_law_54 : decode cL_law 54 = .ok (.aload_n 2, 1) := by decide +kernel
theorem dL_law_55 : decode cL_law 55 = .ok (.aload_n 3, 1) := by decide +kernel
theorem dL_law_56 : decode cL_law 56 = .ok (.invokestatic 269, 3) := by decide +kernel
theorem dL_law_59 : decode cL_law 59 = .ok (.istore 4, 2) := by decide +kernel
theorem dL_law_61 : decode cL_law 61 = .ok (.iload 4, 2) := by decide +kernel
theorem dL_law_63 : decode cL_law 63 = .ok (.bipush (-99), 2) := by decide +kernel
theorem dL_law_65 : decode cL_law 65 = .ok (.if_icmp .ne 5, 3) := by decide +kernel
theorem dL_law_68 : decode cL_law 68 = .ok (.iconst 1, 1) := by decide +kernel
theorem dL_law_69 : decode cL_law 69 = .ok (.ireturn, 1) := by decide +kernel
theorem dL_law_70 : decode cL_law 70 = .ok (.iload 4, 2) := by decide +kernel
theorem dL_law_72 : decode cL_law 72 = .ok (.aload_n 3, 1) := by decide +kernel
theorem dL_law_73 : decode cL_law 73 = .ok (.getfield 31, 3) := by decide +kernel
theorem dL_law_76 : decode cL_law 76 = .ok (.if_icmp .ne 11, 3) := by decide +kernel
theorem dL_law_79 : decode cL_law 79 = .ok (.aload_n 1, 1) := by decide +kernel
theorem dL_law_80 : decode cL_law 80 = .ok (.aload_n 3, 1) := by decide +kernel
theorem dL_law_81 : decode cL_law 81 = .ok (.invokestatic 273, 3) := by decide +kernel
theorem dL_law_84 : decode cL_law 84 = .ok (.ifCond .ne 5, 3) := by decide +kernel
theorem dL_law_87 : decode cL_law 87 = .ok (.iconst 0, 1) := by decide +kernel
theorem dL_law_88 : decode cL_law 88 = .ok (.ireturn, 1) := by decide +kernel
theorem dL_law_89 : decode cL_law 89 = .ok (.aload_n 1, 1) := by decide +kernel
theorem dL_law_90 : decode cL_law 90 = .ok (.invokevirtual 277, 3) := by decide +kernel
theorem dL_law_93 : decode cL_law 93 = .ok (.aload_n 1, 1) := by decide +kernel
theorem dL_law_94 : decode cL_law 94 = .ok (.aload_n 3, 1) := by decide +kernel
theorem dL_law_95 : decode cL_law 95 = .ok (.invokestatic 248, 3) := by decide +kernel
theorem dL_law_98 : decode cL_law 98 = .ok (.istore 5, 2) := by decide +kernel
theorem dL_law_100 : decode cL_law 100 = .ok (.bipush 12, 2) := by decide +kernel
theorem dL_law_102 : decode cL_law 102 = .ok (.newarray .int, 2) := by decide +kernel
theorem dL_law_104 : decode cL_law 104 = .ok (.astore 6, 2) := by decide +kernel
theorem dL_law_106 : decode cL_law 106 = .ok (.iconst 0, 1) := by decide +kernel
theorem dL_law_107 : decode cL_law 107 = .ok (.istore 7, 2) := by decide +kernel
theorem dL_law_109 : decode cL_law 109 = .ok (.iconst 0, 1) := by decide +kernel
theorem dL_law_110 : decode cL_law 110 = .ok (.istore 8, 2) := by decide +kernel
theorem dL_law_112 : decode cL_law 112 = .ok (.iload 8, 2) := by decide +kernel
theorem dL_law_114 : decode cL_law 114 = .ok (.bipush 24, 2) := by decide +kernel
theorem dL_law_116 : decode cL_law 116 = .ok (.if_icmp .ge 168, 3) := by decide +kernel
theorem dL_law_119 : decode cL_law 119 = .ok (.aload_n 0, 1) := by decide +kernel
theorem dL_law_120 : decode cL_law 120 = .ok (.bipush 13, 2) := by decide +kernel
theorem dL_law_122 : decode cL_law 122 = .ok (.iload 8, 2) := by decide +kernel
theorem dL_law_124 : decode cL_law 124 = .ok (.iadd, 1) := by decide +kernel
theorem dL_law_125 : decode cL_law 125 = .ok (.invokestatic 23, 3) := by decide +kernel
theorem dL_law_128 : decode cL_law 128 = .ok (.istore 9, 2) := by decide +kernel
theorem dL_law_130 : decode cL_law 130 = .ok (.aload_n 1, 1) := by decide +kernel
theorem dL_law_131 : decode cL_law 131 = .ok (.aload_n 3, 1) := by decide +kernel
theorem dL_law_132 : decode cL_law 132 = .ok (.invokestatic 248, 3) := by decide +kernel
theorem dL_law_135 : decode cL_law 135 = .ok (.istore 10, 2) := by decide +kernel
theorem dL_law_137 : decode cL_law 137 = .ok (.iload 8, 2) := by decide +kernel
theorem dL_law_139 : decode cL_law 139 = .ok (.bipush 6, 2) := by decide +kernel
theorem dL_law_141 : decode cL_law 141 = .ok (.if_icmp .le 29, 3) := by decide +kernel
theorem dL_law_144 : decode cL_law 144 = .ok (.iload 9, 2) := by decide +kernel
theorem dL_law_146 : decode cL_law 146 = .ok (.iconst 3, 1) := by decide +kernel
theorem dL_law_147 : decode cL_law 147 = .ok (.invokestatic 27, 3) := by decide +kernel
theorem dL_law_150 : decode cL_law 150 = .ok (.ifCond .ne 20, 3) := by decide +kernel
theorem dL_law_153 : decode cL_law 153 = .ok (.aload_n 1, 1) := by decide +kernel
theorem dL_law_154 : decode cL_law 154 = .ok (.aload_n 3, 1) := by decide +kernel
theorem dL_law_155 : decode cL_law 155 = .ok (.invokestatic 280, 3) := by decide +kernel
theorem dL_law_158 : decode cL_law 158 = .ok (.ifCond .ne 5, 3) := by decide +kernel
theorem dL_law_161 : decode cL_law 161 = .ok (.iconst 0, 1) := by decide +kernel
theorem dL_law_162 : decode cL_law 162 = .ok (.ireturn, 1) := by decide +kernel
theorem dL_law_163 : decode cL_law 163 = .ok (.aload_n 3, 1) := by decide +kernel
theorem dL_law_164 : decode cL_law 164 = .ok (.invokevirtual 283, 3) := by decide +kernel
theorem dL_law_167 : decode cL_law 167 = .ok (.goto 44, 3) := by decide +kernel
theorem dL_law_170 : decode cL_law 170 = .ok (.aload_n 1, 1) := by decide +kernel
theorem dL_law_171 : decode cL_law 171 = .ok (.aload_n 3, 1) := by decide +kernel
theorem dL_law_172 : decode cL_law 172 = .ok (.iload 9, 2) := by decide +kernel
theorem dL_law_174 : decode cL_law 174 = .ok (.iconst 1, 1) := by decide +kernel
theorem dL_law_175 : decode cL_law 175 = .ok (.ishr, 1) := by decide +kernel
theorem dL_law_176 : decode cL_law 176 = .ok (.invokestatic 286, 3) := by decide +kernel
theorem dL_law_179 : decode cL_law 179 = .ok (.istore 11, 2) := by decide +kernel
theorem dL_law_181 : decode cL_law 181 = .ok (.iload 11, 2) := by decide +kernel
theorem dL_law_183 : decode cL_law 183 = .ok (.ifCond .lt 18, 3) := by decide +kernel
theorem dL_law_186 : decode cL_law 186 = .ok (.iload 11, 2) := by decide +kernel
theorem dL_law_188 : decode cL_law 188 = .ok (.ifCond .ne 15, 3) := by decide +kernel
theorem dL_law_191 : decode cL_law 191 = .ok (.aload_n 1, 1) := by decide +kernel
theorem dL_law_192 : decode cL_law 192 = .ok (.aload_n 3, 1) := by decide +kernel
theorem dL_law_193 : decode cL_law 193 = .ok (.invokestatic 248, 3) := by decide +kernel
theorem dL_law_196 : decode cL_law 196 = .ok (.iload 10, 2) := by decide +kernel
theorem dL_law_198 : decode cL_law 198 = .ok (.if_icmp .eq 5, 3) := by decide +kernel
theorem dL_law_201 : decode cL_law 201 = .ok (.iconst 0, 1) := by decide +kernel
theorem dL_law_202 : decode cL_law 202 = .ok (.ireturn, 1) := by decide +kernel
theorem dL_law_203 : decode cL_law 203 = .ok (.iload 11, 2) := by decide +kernel
theorem dL_law_205 : decode cL_law 205 = .ok (.ifCond .ne 6, 3) := by decide +kernel
theorem dL_law_208 : decode cL_law 208 = .ok (.goto 70, 3) := by decide +kernel
theorem dL_law_211 : decode cL_law 211 = .ok (.iload 7, 2) := by decide +kernel
theorem dL_law_213 : decode cL_law 213 = .ok (.bipush 12, 2) := by decide +kernel
theorem dL_law_215 : decode cL_law 215 = .ok (.if_icmp .ne 34, 3) := by decide +kernel
theorem dL_law_218 : decode cL_law 218 = .ok (.iconst 1, 1) := by decide +kernel
theorem dL_law_219 : decode cL_law 219 = .ok (.istore 11, 2) := by decide +kernel
theorem dL_law_221 : decode cL_law 221 = .ok (.iload 11, 2) := by decide +kernel
theorem dL_law_223 : decode cL_law 223 = .ok (.bipush 12, 2) := by decide +kernel
theorem dL_law_225 : decode cL_law 225 = .ok (.if_icmp .ge 21, 3) := by decide +kernel
theorem dL_law_228 : decode cL_law 228 = .ok (.aload 6, 2) := by decide +kernel
theorem dL_law_230 : decode cL_law 230 = .ok (.iload 11, 2) := by decide +kernel
theorem dL_law_232 : decode cL_law 232 = .ok (.iconst 1, 1) := by decide +kernel
theorem dL_law_233 : decode cL_law 233 = .ok (.isub, 1) := by decide +kernel
theorem dL_law_234 : decode cL_law 234 = .ok (.aload 6, 2) := by decide +kernel
theorem dL_law_236 : decode cL_law 236 = .ok (.iload 11, 2) := by decide +kernel
theorem dL_law_238 : decode cL_law 238 = .ok (.iaload, 1) := by decide +kernel
theorem dL_law_239 : decode cL_law 239 = .ok (.iastore, 1) := by decide +kernel
theorem dL_law_240 : decode cL_law 240 = .ok (.iinc 11 1, 3) := by decide +kernel
theorem dL_law_243 : decode cL_law 243 = .ok (.goto (-22), 3) := by decide +kernel
theorem dL_law_246 : decode cL_law 246 = .ok (.iinc 7 (-1), 3) := by decide +kernel
theorem dL_law_249 : decode cL_law 249 = .ok (.aload 6, 2) := by decide +kernel
theorem dL_law_251 : decode cL_law 251 = .ok (.iload 7, 2) := by decide +kernel
theorem dL_law_253 : decode cL_law 253 = .ok (.iinc 7 1, 3) := by decide +kernel
theorem dL_law_256 : decode cL_law 256 = .ok (.iload 10, 2) := by decide +kernel
theorem dL_law_258 : decode cL_law 258 = .ok (.iastore, 1) := by decide +kernel
theorem dL_law_259 : decode cL_law 259 = .ok (.aload_n 1, 1) := by decide +kernel
theorem dL_law_260 : decode cL_law 260 = .ok (.invokevirtual 252, 3) := by decide +kernel
theorem dL_law_263 : decode cL_law 263 = .ok (.iload 7, 2) := by decide +kernel
theorem dL_law_265 : decode cL_law 265 = .ok (.if_icmp .ne 11, 3) := by decide +kernel
theorem dL_law_268 : decode cL_law 268 = .ok (.aload_n 1, 1) := by decide +kernel
theorem dL_law_269 : decode cL_law 269 = .ok (.aload_n 3, 1) := by decide +kernel
theorem dL_law_270 : decode cL_law 270 = .ok (.invokestatic 273, 3) := by decide +kernel
theorem dL_law_273 : decode cL_law 273 = .ok (.ifCond .ne 5, 3) := by decide +kernel
theorem dL_law_276 : decode cL_law 276 = .ok (.iconst 0, 1) := by decide +kernel
theorem dL_law_277 : decode cL_law 277 = .ok (.ireturn, 1) := by decide +kernel
theorem dL_law_278 : decode cL_law 278 = .ok (.iinc 8 1, 3) := by decide +kernel
theorem dL_law_281 : decode cL_law 281 = .ok (.goto (-169), 3) := by decide +kernel
theorem dL_law_284 : decode cL_law 284 = .ok (.iload 7, 2) := by decide +kernel
theorem dL_law_286 : decode cL_law 286 = .ok (.bipush 9, 2) := by decide +kernel
theorem dL_law_288 : decode cL_law 288 = .ok (.if_icmp .le 30, 3) := by decide +kernel
theorem dL_law_291 : decode cL_law 291 = .ok (.iinc 7 (-1), 3) := by decide +kernel
theorem dL_law_294 : decode cL_law 294 = .ok (.aload_n 1, 1) := by decide +kernel
theorem dL_law_295 : decode cL_law 295 = .ok (.invokevirtual 258, 3) := by decide +kernel
theorem dL_law_298 : decode cL_law 298 = .ok (.iload 7, 2) := by decide +kernel
theorem dL_law_300 : decode cL_law 300 = .ok (.if_icmp .ne 16, 3) := by decide +kernel
theorem dL_law_303 : decode cL_law 303 = .ok (.aload_n 1, 1) := by decide +kernel
theorem dL_law_304 : decode cL_law 304 = .ok (.aload_n 3, 1) := by decide +kernel
theorem dL_law_305 : decode cL_law 305 = .ok (.invokestatic 248, 3) := by decide +kernel
theorem dL_law_308 : decode cL_law 308 = .ok (.aload 6, 2) := by decide +kernel
theorem dL_law_310 : decode cL_law 310 = .ok (.iload 7, 2) := by decide +kernel
theorem dL_law_312 : decode cL_law 312 = .ok (.iaload, 1) := by decide +kernel
theorem dL_law_313 : decode cL_law 313 = .ok (.if_icmp .eq (-29), 3) := by decide +kernel
theorem dL_law_316 : decode cL_law 316 = .ok (.iconst 0, 1) := by decide +kernel
theorem dL_law_317 : decode cL_law 317 = .ok (.ireturn, 1) := by decide +kernel
theorem dL_law_318 : decode cL_law 318 = .ok (.aload_n 1, 1) := by decide +kernel
theorem dL_law_319 : decode cL_law 319 = .ok (.invokevirtual 102, 3) := by decide +kernel
theorem dL_law_322 : decode cL_law 322 = .ok (.ifCond .le 37, 3) := by decide +kernel
theorem dL_law_325 : decode cL_law 325 = .ok (.aload_n 1, 1) := by decide +kernel
theorem dL_law_326 : decode cL_law 326 = .ok (.aload_n 3, 1) := by decide +kernel
theorem dL_law_327 : decode cL_law 327 = .ok (.aload_n 0, 1) := by decide +kernel
theorem dL_law_328 : decode cL_law 328 = .ok (.bipush 37, 2) := by decide +kernel
theorem dL_law_330 : decode cL_law 330 = .ok (.invokestatic 23, 3) := by decide +kernel
theorem dL_law_333 : decode cL_law 333 = .ok (.aload_n 1, 1) := by decide +kernel
theorem dL_law_334 : decode cL_law 334 = .ok (.invokevirtual 102, 3) := by decide +kernel
theorem dL_law_337 : decode cL_law 337 = .ok (.invokestatic 27, 3) := by decide +kernel
theorem dL_law_340 : decode cL_law 340 = .ok (.aload_n 0, 1) := by decide +kernel
theorem dL_law_341 : decode cL_law 341 = .ok (.bipush 38, 2) := by decide +kernel
theorem dL_law_343 : decode cL_law 343 = .ok (.invokestatic 23, 3) := by decide +kernel
theorem dL_law_346 : decode cL_law 346 = .ok (.bipush 12, 2) := by decide +kernel
theorem dL_law_348 : decode cL_law 348 = .ok (.invokestatic 27, 3) := by decide +kernel
theorem dL_law_351 : decode cL_law 351 = .ok (.invokestatic 290, 3) := by decide +kernel
theorem dL_law_354 : decode cL_law 354 = .ok (.ifCond .ne 5, 3) := by decide +kernel
theorem dL_law_357 : decode cL_law 357 = .ok (.iconst 0, 1) := by decide +kernel
theorem dL_law_358 : decode cL_law 358 = .ok (.ireturn, 1) := by decide +kernel
theorem dL_law_359 : decode cL_law 359 = .ok (.aload_n 1, 1) := by decide +kernel
theorem dL_law_360 : decode cL_law 360 = .ok (.aload_n 3, 1) := by decide +kernel
theorem dL_law_361 : decode cL_law 361 = .ok (.aload_n 0, 1) := by decide +kernel
theorem dL_law_362 : decode cL_law 362 = .ok (.bipush 39, 2) := by decide +kernel
theorem dL_law_364 : decode cL_law 364 = .ok (.invokestatic 23, 3) := by decide +kernel
theorem dL_law_367 : decode cL_law 367 = .ok (.aload_n 3, 1) := by decide +kernel
theorem dL_law_368 : decode cL_law 368 = .ok (.getfield 31, 3) := by decide +kernel
theorem dL_law_371 : decode cL_law 371 = .ok (.invokestatic 27, 3) := by decide +kernel
theorem dL_law_374 : decode cL_law 374 = .ok (.aload_n 0, 1) := by decide +kernel
theorem dL_law_375 : decode cL_law 375 = .ok (.bipush 40, 2) := by decide +kernel
theorem dL_law_377 : decode cL_law 377 = .ok (.invokestatic 23, 3) := by decide +kernel
theorem dL_law_380 : decode cL_law 380 = .ok (.aload_n 3, 1) := by decide +kernel
theorem dL_law_381 : decode cL_law 381 = .ok (.getfield 31, 3) := by decide +kernel
theorem dL_law_384 : decode cL_law 384 = .ok (.invokestatic 27, 3) := by decide +kernel
theorem dL_law_387 : decode cL_law 387 = .ok (.aload_n 0, 1) := by decide +kernel
theorem dL_law_388 : decode cL_law 388 = .ok (.bipush 41, 2) := by decide +kernel
theorem dL_law_390 : decode cL_law 390 = .ok (.invokestatic 23, 3) := by decide +kernel
theorem dL_law_393 : decode cL_law 393 = .ok (.bipush 6, 2) := by decide +kernel
theorem dL_law_395 : decode cL_law 395 = .ok (.invokestatic 27, 3) := by decide +kernel
theorem dL_law_398 : decode cL_law 398 = .ok (.invokestatic 294, 3) := by decide +kernel
theorem dL_law_401 : decode cL_law 401 = .ok (.ifCond .eq 12, 3) := by decide +kernel
theorem dL_law_404 : decode cL_law 404 = .ok (.aload_n 1, 1) := by decide +kernel
theorem dL_law_405 : decode cL_law 405 = .ok (.invokevirtual 252, 3) := by decide +kernel
theorem dL_law_408 : decode cL_law 408 = .ok (.iload 7, 2) := by decide +kernel
theorem dL_law_410 : decode cL_law 410 = .ok (.if_icmp .eq 5, 3) := by decide +kernel
theorem dL_law_413 : decode cL_law 413 = .ok (.iconst 0, 1) := by decide +kernel
theorem dL_law_414 : decode cL_law 414 = .ok (.ireturn, 1) := by decide +kernel
theorem dL_law_415 : decode cL_law 415 = .ok (.iload 7, 2) := by decide +kernel
theorem dL_law_417 : decode cL_law 417 = .ok (.iconst 1, 1) := by decide +kernel
theorem dL_law_418 : decode cL_law 418 = .ok (.isub, 1) := by decide +kernel
theorem dL_law_419 : decode cL_law 419 = .ok (.istore 8, 2) := by decide +kernel
theorem dL_law_421 : decode cL_law 421 = .ok (.iload 8, 2) := by decide +kernel
theorem dL_law_423 : decode cL_law 423 = .ok (.ifCond .lt 33, 3) := by decide +kernel
theorem dL_law_426 : decode cL_law 426 = .ok (.aload_n 1, 1) := by decide +kernel
theorem dL_law_427 : decode cL_law 427 = .ok (.invokevirtual 258, 3) := by decide +kernel
theorem dL_law_430 : decode cL_law 430 = .ok (.iload 8, 2) := by decide +kernel
theorem dL_law_432 : decode cL_law 432 = .ok (.if_icmp .ne 16, 3) := by decide +kernel
theorem dL_law_435 : decode cL_law 435 = .ok (.aload_n 1, 1) := by decide +kernel
theorem dL_law_436 : decode cL_law 436 = .ok (.aload_n 3, 1) := by decide +kernel
theorem dL_law_437 : decode cL_law 437 = .ok (.invokestatic 248, 3) := by decide +kernel
theorem dL_law_440 : decode cL_law 440 = .ok (.aload 6, 2) := by decide +kernel
theorem dL_law_442 : decode cL_law 442 = .ok (.iload 8, 2) := by decide +kernel
theorem dL_law_444 : decode cL_law 444 = .ok (.iaload, 1) := by decide +kernel
theorem dL_law_445 : decode cL_law 445 = .ok (.if_icmp .eq 5, 3) := by decide +kernel
theorem dL_law_448 : decode cL_law 448 = .ok (.iconst 0, 1) := by decide +kernel
theorem dL_law_449 : decode cL_law 449 = .ok (.ireturn, 1) := by decide +kernel
theorem dL_law_450 : decode cL_law 450 = .ok (.iinc 8 (-1), 3) := by decide +kernel
theorem dL_law_453 : decode cL_law 453 = .ok (.goto (-32), 3) := by decide +kernel
theorem dL_law_456 : decode cL_law 456 = .ok (.aload_n 1, 1) := by decide +kernel
theorem dL_law_457 : decode cL_law 457 = .ok (.invokevirtual 258, 3) := by decide +kernel
theorem dL_law_460 : decode cL_law 460 = .ok (.iconst (-1), 1) := by decide +kernel
theorem dL_law_461 : decode cL_law 461 = .ok (.if_icmp .ne 24, 3) := by decide +kernel
theorem dL_law_464 : decode cL_law 464 = .ok (.aload_n 1, 1) := by decide +kernel
theorem dL_law_465 : decode cL_law 465 = .ok (.invokevirtual 298, 3) := by decide +kernel
theorem dL_law_468 : decode cL_law 468 = .ok (.ifCond .eq 17, 3) := by decide +kernel
theorem dL_law_471 : decode cL_law 471 = .ok (.aload_n 1, 1) := by decide +kernel
theorem dL_law_472 : decode cL_law 472 = .ok (.aload_n 3, 1) := by decide +kernel
theorem dL_law_473 : decode cL_law 473 = .ok (.invokestatic 248, 3) := by decide +kernel
theorem dL_law_476 : decode cL_law 476 = .ok (.iload 5, 2) := by decide +kernel
theorem dL_law_478 : decode cL_law 478 = .ok (.if_icmp .ne 7, 3) := by decide +kernel
theorem dL_law_481 : decode cL_law 481 = .ok (.iconst 1, 1) := by decide +kernel
theorem dL_law_482 : decode cL_law 482 = .ok (.goto 4, 3) := by decide +kernel
theorem dL_law_485 : decode cL_law 485 = .ok (.iconst 0, 1) := by decide +kernel
theorem dL_law_486 : decode cL_law 486 = .ok (.ireturn, 1) := by decide +kernel
