/-! decode rows, printed by program -/
theorem dX8_init_0 : decode cX8_init 0 = .ok (.aload_n 0, 1) := by decide +kernel
theorem dX8_init_1 : decode cX8_init 1 = .ok (.invokespecial 1, 3) := by decide +kernel
theorem dX8_init_4 : decode cX8_init 4 = .ok (.aload_n 0, 1) := by decide +kernel
theorem dX8_init_5 : decode cX8_init 5 = .ok (.bipush 8, 2) := by decide +kernel
theorem dX8_init_7 : decode cX8_init 7 = .ok (.newarray .int, 2) := by decide +kernel
theorem dX8_init_9 : decode cX8_init 9 = .ok (.putfield 7, 3) := by decide +kernel
theorem dX8_init_12 : decode cX8_init 12 = .ok (.aload_n 0, 1) := by decide +kernel
theorem dX8_init_13 : decode cX8_init 13 = .ok (.bipush 8, 2) := by decide +kernel
theorem dX8_init_15 : decode cX8_init 15 = .ok (.newarray .int, 2) := by decide +kernel
theorem dX8_init_17 : decode cX8_init 17 = .ok (.putfield 13, 3) := by decide +kernel
theorem dX8_init_20 : decode cX8_init 20 = .ok (.aload_n 0, 1) := by decide +kernel
theorem dX8_init_21 : decode cX8_init 21 = .ok (.sipush 320, 3) := by decide +kernel
theorem dX8_init_24 : decode cX8_init 24 = .ok (.newarray .int, 2) := by decide +kernel
theorem dX8_init_26 : decode cX8_init 26 = .ok (.putfield 16, 3) := by decide +kernel
theorem dX8_init_29 : decode cX8_init 29 = .ok (.aload_n 0, 1) := by decide +kernel
theorem dX8_init_30 : decode cX8_init 30 = .ok (.bipush 40, 2) := by decide +kernel
theorem dX8_init_32 : decode cX8_init 32 = .ok (.newarray .int, 2) := by decide +kernel
theorem dX8_init_34 : decode cX8_init 34 = .ok (.putfield 19, 3) := by decide +kernel
theorem dX8_init_37 : decode cX8_init 37 = .ok (.aload_n 0, 1) := by decide +kernel
theorem dX8_init_38 : decode cX8_init 38 = .ok (.sipush 130, 3) := by decide +kernel
theorem dX8_init_41 : decode cX8_init 41 = .ok (.newarray .int, 2) := by decide +kernel
theorem dX8_init_43 : decode cX8_init 43 = .ok (.putfield 22, 3) := by decide +kernel
theorem dX8_init_46 : decode cX8_init 46 = .ok (.aload_n 0, 1) := by decide +kernel
theorem dX8_init_47 : decode cX8_init 47 = .ok (.bipush 93, 2) := by decide +kernel
theorem dX8_init_49 : decode cX8_init 49 = .ok (.newarray .int, 2) := by decide +kernel
theorem dX8_init_51 : decode cX8_init 51 = .ok (.putfield 25, 3) := by decide +kernel
theorem dX8_init_54 : decode cX8_init 54 = .ok (.aload_n 0, 1) := by decide +kernel
theorem dX8_init_55 : decode cX8_init 55 = .ok (.bipush 93, 2) := by decide +kernel
theorem dX8_init_57 : decode cX8_init 57 = .ok (.newarray .int, 2) := by decide +kernel
theorem dX8_init_59 : decode cX8_init 59 = .ok (.putfield 28, 3) := by decide +kernel
theorem dX8_init_62 : decode cX8_init 62 = .ok (.aload_n 0, 1) := by decide +kernel
theorem dX8_init_63 : decode cX8_init 63 = .ok (.bipush 93, 2) := by decide +kernel
theorem dX8_init_65 : decode cX8_init 65 = .ok (.newarray .int, 2) := by decide +kernel
theorem dX8_init_67 : decode cX8_init 67 = .ok (.putfield 31, 3) := by decide +kernel
theorem dX8_init_70 : decode cX8_init 70 = .ok (.aload_n 0, 1) := by decide +kernel
theorem dX8_init_71 : decode cX8_init 71 = .ok (.sipush 1488, 3) := by decide +kernel
theorem dX8_init_74 : decode cX8_init 74 = .ok (.newarray .int, 2) := by decide +kernel
theorem dX8_init_76 : decode cX8_init 76 = .ok (.putfield 34, 3) := by decide +kernel
theorem dX8_init_79 : decode cX8_init 79 = .ok (.aload_n 0, 1) := by decide +kernel
theorem dX8_init_80 : decode cX8_init 80 = .ok (.sipush 186, 3) := by decide +kernel
theorem dX8_init_83 : decode cX8_init 83 = .ok (.newarray .int, 2) := by decide +kernel
theorem dX8_init_85 : decode cX8_init 85 = .ok (.putfield 37, 3) := by decide +kernel
theorem dX8_init_88 : decode cX8_init 88 = .ok (.aload_n 0, 1) := by decide +kernel
theorem dX8_init_89 : decode cX8_init 89 = .ok (.iconst 2, 1) := by decide +kernel
theorem dX8_init_90 : decode cX8_init 90 = .ok (.newarray .boolean, 2) := by decide +kernel
theorem dX8_init_92 : decode cX8_init 92 = .ok (.putfield 40, 3) := by decide +kernel
theorem dX8_init_95 : decode cX8_init 95 = .ok (.aload_n 0, 1) := by decide +kernel
theorem dX8_init_96 : decode cX8_init 96 = .ok (.sipush 240, 3) := by decide +kernel
theorem dX8_init_99 : decode cX8_init 99 = .ok (.newarray .int, 2) := by decide +kernel
theorem dX8_init_101 : decode cX8_init 101 = .ok (.putfield 44, 3) := by decide +kernel
theorem dX8_init_104 : decode cX8_init 104 = .ok (.aload_n 0, 1) := by decide +kernel
theorem dX8_init_105 : decode cX8_init 105 = .ok (.sipush 240, 3) := by decide +kernel
theorem dX8_init_108 : decode cX8_init 108 = .ok (.newarray .int, 2) := by decide +kernel
theorem dX8_init_110 : decode cX8_init 110 = .ok (.putfield 47, 3) := by decide +kernel
theorem dX8_init_113 : decode cX8_init 113 = .ok (.aload_n 0, 1) := by decide +kernel
theorem dX8_init_114 : decode cX8_init 114 = .ok (.bipush 10, 2) := by decide +kernel
theorem dX8_init_116 : decode cX8_init 116 = .ok (.newarray .int, 2) := by decide +kernel
theorem dX8_init_118 : decode cX8_init 118 = .ok (.putfield 50, 3) := by decide +kernel
theorem dX8_init_121 : decode cX8_init 121 = .ok (.aload_n 0, 1) := by decide +kernel
theorem dX8_init_122 : decode cX8_init 122 = .ok (.bipush 7, 2) := by decide +kernel
theorem dX8_init_124 : decode cX8_init 124 = .ok (.newarray .int, 2) := by decide +kernel
theorem dX8_init_126 : decode cX8_init 126 = .ok (.putfield 53, 3) := by decide +kernel
theorem dX8_init_129 : decode cX8_init 129 = .ok (.aload_n 0, 1) := by decide +kernel
theorem dX8_init_130 : decode cX8_init 130 = .ok (.bipush 40, 2) := by decide +kernel
theorem dX8_init_132 : decode cX8_init 132 = .ok (.newarray .int, 2) := by decide +kernel
theorem dX8_init_134 : decode cX8_init 134 = .ok (.putfield 56, 3) := by decide +kernel
theorem dX8_init_137 : decode cX8_init 137 = .ok (.aload_n 0, 1) := by decide +kernel
theorem dX8_init_138 : decode cX8_init 138 = .ok (.bipush 16, 2) := by decide +kernel
theorem dX8_init_140 : decode cX8_init 140 = .ok (.newarray .int, 2) := by decide +kernel
theorem dX8_init_142 : decode cX8_init 142 = .ok (.putfield 59, 3) := by decide +kernel
theorem dX8_init_145 : decode cX8_init 145 = .ok (.iconst 0, 1) := by decide +kernel
theorem dX8_init_146 : decode cX8_init 146 = .ok (.istore_n 1, 1) := by decide +kernel
theorem dX8_init_147 : decode cX8_init 147 = .ok (.iload_n 1, 1) := by decide +kernel
theorem dX8_init_148 : decode cX8_init 148 = .ok (.bipush 8, 2) := by decide +kernel
theorem dX8_init_150 : decode cX8_init 150 = .ok (.if_icmp .ge 17, 3) := by decide +kernel
theorem dX8_init_153 : decode cX8_init 153 = .ok (.aload_n 0, 1) := by decide +kernel
theorem dX8_init_154 : decode cX8_init 154 = .ok (.getfield 7, 3) := by decide +kernel
theorem dX8_init_157 : decode cX8_init 157 = .ok (.iload_n 1, 1) := by decide +kernel
theorem dX8_init_158 : decode cX8_init 158 = .ok (.ldc 62, 2) := by decide +kernel
theorem dX8_init_160 : decode cX8_init 160 = .ok (.iastore, 1) := by decide +kernel
theorem dX8_init_161 : decode cX8_init 161 = .ok (.iinc 1 1, 3) := by decide +kernel
theorem dX8_init_164 : decode cX8_init 164 = .ok (.goto (-17), 3) := by decide +kernel
theorem dX8_init_167 : decode cX8_init 167 = .ok (.return_, 1) := by decide +kernel
theorem dX8_in_0 : decode cX8_in 0 = .ok (.iload_n 0, 1) := by decide +kernel
theorem dX8_in_1 : decode cX8_in 1 = .ok (.iload_n 1, 1) := by decide +kernel
theorem dX8_in_2 : decode cX8_in 2 = .ok (.if_icmp .lt 12, 3) := by decide +kernel
theorem dX8_in_5 : decode cX8_in 5 = .ok (.iload_n 0, 1) := by decide +kernel
theorem dX8_in_6 : decode cX8_in 6 = .ok (.iload_n 2, 1) := by decide +kernel
theorem dX8_in_7 : decode cX8_in 7 = .ok (.if_icmp .gt 7, 3) := by decide +kernel
theorem dX8_in_10 : decode cX8_in 10 = .ok (.iconst 1, 1) := by decide +kernel
theorem dX8_in_11 : decode cX8_in 11 = .ok (.goto 4, 3) := by decide +kernel
theorem dX8_in_14 : decode cX8_in 14 = .ok (.iconst 0, 1) := by decide +kernel
theorem dX8_in_15 : decode cX8_in 15 = .ok (.ireturn, 1) := by decide +kernel
theorem dX8_size_0 : decode cX8_size 0 = .ok (.iload_n 0, 1) := by decide +kernel
theorem dX8_size_1 : decode cX8_size 1 = .ok (.ifCond .ge 8, 3) := by decide +kernel
theorem dX8_size_4 : decode cX8_size 4 = .ok (.iload_n 0, 1) := by decide +kernel
theorem dX8_size_5 : decode cX8_size 5 = .ok (.ineg, 1) := by decide +kernel
theorem dX8_size_6 : decode cX8_size 6 = .ok (.goto 4, 3) := by decide +kernel
theorem dX8_size_9 : decode cX8_size 9 = .ok (.iload_n 0, 1) := by decide +kernel
theorem dX8_size_10 : decode cX8_size 10 = .ok (.ireturn, 1) := by decide +kernel
theorem dX8_found_0 : decode cX8_found 0 = .ok (.aload_n 0, 1) := by decide +kernel
theorem dX8_found_1 : decode cX8_found 1 = .ok (.iload_n 1, 1) := by decide +kernel
theorem dX8_found_2 : decode cX8_found 2 = .ok (.putfield 63, 3) := by decide +kernel
theorem dX8_found_5 : decode cX8_found 5 = .ok (.ldc 67, 2) := by decide +kernel
theorem dX8_found_7 : decode cX8_found 7 = .ok (.iload_n 1, 1) := by decide +kernel
theorem dX8_found_8 : decode cX8_found 8 = .ok (.isub, 1) := by decide +kernel
theorem dX8_found_9 : decode cX8_found 9 = .ok (.ireturn, 1) := by decide +kernel
theorem dX8_well_0 : decode cX8_well 0 = .ok (.aload_n 0, 1) := by decide +kernel
theorem dX8_well_1 : decode cX8_well 1 = .ok (.iconst 0, 1) := by decide +kernel
theorem dX8_well_2 : decode cX8_well 2 = .ok (.putfield 63, 3) := by decide +kernel
theorem dX8_well_5 : decode cX8_well 5 = .ok (.iload_n 1, 1) := by decide +kernel
theorem dX8_well_6 : decode cX8_well 6 = .ok (.ireturn, 1) := by decide +kernel
theorem dX8_copies_0 : decode cX8_copies 0 = .ok (.iconst 0, 1) := by decide +kernel
theorem dX8_copies_1 : decode cX8_copies 1 = .ok (.istore 4, 2) := by decide +kernel
theorem dX8_copies_3 : decode cX8_copies 3 = .ok (.iload 4, 2) := by decide +kernel
theorem dX8_copies_5 : decode cX8_copies 5 = .ok (.bipush 93, 2) := by decide +kernel
theorem dX8_copies_7 : decode cX8_copies 7 = .ok (.if_icmp .ge 21, 3) := by decide +kernel
theorem dX8_copies_10 : decode cX8_copies 10 = .ok (.aload_n 2, 1) := by decide +kernel
theorem dX8_copies_11 : decode cX8_copies 11 = .ok (.iload_n 3, 1) := by decide +kernel
theorem dX8_copies_12 : decode cX8_copies 12 = .ok (.iload 4, 2) := by decide +kernel
theorem dX8_copies_14 : decode cX8_copies 14 = .ok (.iadd, 1) := by decide +kernel
theorem dX8_copies_15 : decode cX8_copies 15 = .ok (.aload_n 0, 1) := by decide +kernel
theorem dX8_copies_16 : decode cX8_copies 16 = .ok (.iload_n 1, 1) := by decide +kernel
theorem dX8_copies_17 : decode cX8_copies 17 = .ok (.iload 4, 2) := by decide +kernel
theorem dX8_copies_19 : decode cX8_copies 19 = .ok (.iadd, 1) := by decide +kernel
theorem dX8_copies_20 : decode cX8_copies 20 = .ok (.iaload, 1) := by decide +kernel
theorem dX8_copies_21 : decode cX8_copies 21 = .ok (.iastore, 1) := by decide +kernel
theorem dX8_copies_22 : decode cX8_copies 22 = .ok (.iinc 4 1, 3) := by decide +kernel
theorem dX8_copies_25 : decode cX8_copies 25 = .ok (.goto (-22), 3) := by decide +kernel
theorem dX8_copies_28 : decode cX8_copies 28 = .ok (.return_, 1) := by decide +kernel
theorem dX8_isRow_0 : decode cX8_isRow 0 = .ok (.iload_n 0, 1) := by decide +kernel
theorem dX8_isRow_1 : decode cX8_isRow 1 = .ok (.iconst 0, 1) := by decide +kernel
theorem dX8_isRow_2 : decode cX8_isRow 2 = .ok (.bipush 7, 2) := by decide +kernel
theorem dX8_isRow_4 : decode cX8_isRow 4 = .ok (.invokestatic 68, 3) := by decide +kernel
theorem dX8_isRow_7 : decode cX8_isRow 7 = .ok (.ireturn, 1) := by decide +kernel
theorem dX8_isMissing_0 : decode cX8_isMissing 0 = .ok (.aload_n 0, 1) := by decide +kernel
theorem dX8_isMissing_1 : decode cX8_isMissing 1 = .ok (.getfield 7, 3) := by decide +kernel
theorem dX8_isMissing_4 : decode cX8_isMissing 4 = .ok (.iload_n 1, 1) := by decide +kernel
theorem dX8_isMissing_5 : decode cX8_isMissing 5 = .ok (.iaload, 1) := by decide +kernel
theorem dX8_isMissing_6 : decode cX8_isMissing 6 = .ok (.ldc 62, 2) := by decide +kernel
theorem dX8_isMissing_8 : decode cX8_isMissing 8 = .ok (.if_icmp .ne 7, 3) := by decide +kernel
theorem dX8_isMissing_11 : decode cX8_isMissing 11 = .ok (.iconst 1, 1) := by decide +kernel
theorem dX8_isMissing_12 : decode cX8_isMissing 12 = .ok (.goto 4, 3) := by decide +kernel
theorem dX8_isMissing_15 : decode cX8_isMissing 15 = .ok (.iconst 0, 1) := by decide +kernel
theorem dX8_isMissing_16 : decode cX8_isMissing 16 = .ok (.ireturn, 1) := by decide +kernel
theorem dX8_lowest_0 : decode cX8_lowest 0 = .ok (.iload_n 0, 1) := by decide +kernel
theorem dX8_lowest_1 : decode cX8_lowest 1 = .ok (.ifCond .ne 13, 3) := by decide +kernel
theorem dX8_lowest_4 : decode cX8_lowest 4 = .ok (.iload_n 1, 1) := by decide +kernel
theorem dX8_lowest_5 : decode cX8_lowest 5 = .ok (.bipush 24, 2) := by decide +kernel
theorem dX8_lowest_7 : decode cX8_lowest 7 = .ok (.ishl, 1) := by decide +kernel
theorem dX8_lowest_8 : decode cX8_lowest 8 = .ok (.bipush 24, 2) := by decide +kernel
theorem dX8_lowest_10 : decode cX8_lowest 10 = .ok (.ishr, 1) := by decide +kernel
theorem dX8_lowest_11 : decode cX8_lowest 11 = .ok (.goto 19, 3) := by decide +kernel
theorem dX8_lowest_14 : decode cX8_lowest 14 = .ok (.iload_n 0, 1) := by decide +kernel
theorem dX8_lowest_15 : decode cX8_lowest 15 = .ok (.iconst 1, 1) := by decide +kernel
theorem dX8_lowest_16 : decode cX8_lowest 16 = .ok (.if_icmp .ne 13, 3) := by decide +kernel
theorem dX8_lowest_19 : decode cX8_lowest 19 = .ok (.iload_n 1, 1) := by decide +kernel
theorem dX8_lowest_20 : decode cX8_lowest 20 = .ok (.bipush 16, 2) := by decide +kernel
theorem dX8_lowest_22 : decode cX8_lowest 22 = .ok (.ishl, 1) := by decide +kernel
theorem dX8_lowest_23 : decode cX8_lowest 23 = .ok (.bipush 16, 2) := by decide +kernel
theorem dX8_lowest_25 : decode cX8_lowest 25 = .ok (.ishr, 1) := by decide +kernel
theorem dX8_lowest_26 : decode cX8_lowest 26 = .ok (.goto 4, 3) := by decide +kernel
theorem dX8_lowest_29 : decode cX8_lowest 29 = .ok (.iload_n 1, 1) := by decide +kernel
theorem dX8_lowest_30 : decode cX8_lowest 30 = .ok (.ireturn, 1) := by decide +kernel
theorem dX8_row_0 : decode cX8_row 0 = .ok (.iload_n 1, 1) := by decide +kernel
theorem dX8_row_1 : decode cX8_row 1 = .ok (.invokestatic 72, 3) := by decide +kernel
theorem dX8_row_4 : decode cX8_row 4 = .ok (.ifCond .eq 18, 3) := by decide +kernel
theorem dX8_row_7 : decode cX8_row 7 = .ok (.iload_n 2, 1) := by decide +kernel
theorem dX8_row_8 : decode cX8_row 8 = .ok (.iconst 0, 1) := by decide +kernel
theorem dX8_row_9 : decode cX8_row 9 = .ok (.iconst 2, 1) := by decide +kernel
theorem dX8_row_10 : decode cX8_row 10 = .ok (.invokestatic 68, 3) := by decide +kernel
theorem dX8_row_13 : decode cX8_row 13 = .ok (.ifCond .eq 9, 3) := by decide +kernel
theorem dX8_row_16 : decode cX8_row 16 = .ok (.iload_n 3, 1) := by decide +kernel
theorem dX8_row_17 : decode cX8_row 17 = .ok (.bipush 40, 2) := by decide +kernel
theorem dX8_row_19 : decode cX8_row 19 = .ok (.if_icmp .le 6, 3) := by decide +kernel
theorem dX8_row_22 : decode cX8_row 22 = .ok (.ldc 76, 2) := by decide +kernel
theorem dX8_row_24 : decode cX8_row 24 = .ok (.ireturn, 1) := by decide +kernel
theorem dX8_row_25 : decode cX8_row 25 = .ok (.iload_n 3, 1) := by decide +kernel
theorem dX8_row_26 : decode cX8_row 26 = .ok (.ifCond .ge 9, 3) := by decide +kernel
theorem dX8_row_29 : decode cX8_row 29 = .ok (.aload_n 0, 1) := by decide +kernel
theorem dX8_row_30 : decode cX8_row 30 = .ok (.iconst 4, 1) := by decide +kernel
theorem dX8_row_31 : decode cX8_row 31 = .ok (.invokevirtual 77, 3) := by decide +kernel
theorem dX8_row_34 : decode cX8_row 34 = .ok (.ireturn, 1) := by decide +kernel
theorem dX8_row_35 : decode cX8_row 35 = .ok (.aload_n 0, 1) := by decide +kernel
theorem dX8_row_36 : decode cX8_row 36 = .ok (.getfield 7, 3) := by decide +kernel
theorem dX8_row_39 : decode cX8_row 39 = .ok (.iload_n 1, 1) := by decide +kernel
theorem dX8_row_40 : decode cX8_row 40 = .ok (.iload_n 2, 1) := by decide +kernel
theorem dX8_row_41 : decode cX8_row 41 = .ok (.iastore, 1) := by decide +kernel
theorem dX8_row_42 : decode cX8_row 42 = .ok (.aload_n 0, 1) := by decide +kernel
theorem dX8_row_43 : decode cX8_row 43 = .ok (.getfield 13, 3) := by decide +kernel
theorem dX8_row_46 : decode cX8_row 46 = .ok (.iload_n 1, 1) := by decide +kernel
theorem dX8_row_47 : decode cX8_row 47 = .ok (.iload_n 3, 1) := by decide +kernel
theorem dX8_row_48 : decode cX8_row 48 = .ok (.iastore, 1) := by decide +kernel
theorem dX8_row_49 : decode cX8_row 49 = .ok (.iconst 0, 1) := by decide +kernel
theorem dX8_row_50 : decode cX8_row 50 = .ok (.istore 4, 2) := by decide +kernel
theorem dX8_row_52 : decode cX8_row 52 = .ok (.iload 4, 2) := by decide +kernel
theorem dX8_row_54 : decode cX8_row 54 = .ok (.bipush 40, 2) := by decide +kernel
theorem dX8_row_56 : decode cX8_row 56 = .ok (.if_icmp .ge 22, 3) := by decide +kernel
theorem dX8_row_59 : decode cX8_row 59 = .ok (.aload_n 0, 1) := by decide +kernel
theorem dX8_row_60 : decode cX8_row 60 = .ok (.getfield 16, 3) := by decide +kernel
theorem dX8_row_63 : decode cX8_row 63 = .ok (.bipush 40, 2) := by decide +kernel
theorem dX8_row_65 : decode cX8_row 65 = .ok (.iload_n 1, 1) := by decide +kernel
theorem dX8_row_66 : decode cX8_row 66 = .ok (.imul, 1) := by decide +kernel
theorem dX8_row_67 : decode cX8_row 67 = .ok (.iload 4, 2) := by decide +kernel
theorem dX8_row_69 : decode cX8_row 69 = .ok (.iadd, 1) := by decide +kernel
theorem dX8_row_70 : decode cX8_row 70 = .ok (.iconst 0, 1) := by decide +kernel
theorem dX8_row_71 : decode cX8_row 71 = .ok (.iastore, 1) := by decide +kernel
theorem dX8_row_72 : decode cX8_row 72 = .ok (.iinc 4 1, 3) := by decide +kernel
theorem dX8_row_75 : decode cX8_row 75 = .ok (.goto (-23), 3) := by decide +kernel
theorem dX8_row_78 : decode cX8_row 78 = .ok (.aload_n 0, 1) := by decide +kernel
theorem dX8_row_79 : decode cX8_row 79 = .ok (.iload_n 3, 1) := by decide +kernel
theorem dX8_row_80 : decode cX8_row 80 = .ok (.invokevirtual 81, 3) := by decide +kernel
theorem dX8_row_83 : decode cX8_row 83 = .ok (.ireturn, 1) := by decide +kernel
theorem dX8_set_0 : decode cX8_set 0 = .ok (.iload_n 1, 1) := by decide +kernel
theorem dX8_set_1 : decode cX8_set 1 = .ok (.invokestatic 72, 3) := by decide +kernel
theorem dX8_set_4 : decode cX8_set 4 = .ok (.ifCond .ne 6, 3) := by decide +kernel
theorem dX8_set_7 : decode cX8_set 7 = .ok (.ldc 76, 2) := by decide +kernel
theorem dX8_set_9 : decode cX8_set 9 = .ok (.ireturn, 1) := by decide +kernel
theorem dX8_set_10 : decode cX8_set 10 = .ok (.aload_n 0, 1) := by decide +kernel
theorem dX8_set_11 : decode cX8_set 11 = .ok (.iload_n 1, 1) := by decide +kernel
theorem dX8_set_12 : decode cX8_set 12 = .ok (.invokevirtual 84, 3) := by decide +kernel
theorem dX8_set_15 : decode cX8_set 15 = .ok (.ifCond .eq 9, 3) := by decide +kernel
theorem dX8_set_18 : decode cX8_set 18 = .ok (.aload_n 0, 1) := by decide +kernel
theorem dX8_set_19 : decode cX8_set 19 = .ok (.iconst 1, 1) := by decide +kernel
theorem dX8_set_20 : decode cX8_set 20 = .ok (.invokevirtual 77, 3) := by decide +kernel
theorem dX8_set_23 : decode cX8_set 23 = .ok (.ireturn, 1) := by decide +kernel
theorem dX8_set_24 : decode cX8_set 24 = .ok (.iload_n 2, 1) := by decide +kernel
theorem dX8_set_25 : decode cX8_set 25 = .ok (.iconst 0, 1) := by decide +kernel
theorem dX8_set_26 : decode cX8_set 26 = .ok (.aload_n 0, 1) := by decide +kernel
theorem dX8_set_27 : decode cX8_set 27 = .ok (.getfield 13, 3) := by decide +kernel
theorem dX8_set_30 : decode cX8_set 30 = .ok (.iload_n 1, 1) := by decide +kernel
theorem dX8_set_31 : decode cX8_set 31 = .ok (.iaload, 1) := by decide +kernel
theorem dX8_set_32 : decode cX8_set 32 = .ok (.iconst 1, 1) := by decide +kernel
theorem dX8_set_33 : decode cX8_set 33 = .ok (.isub, 1) := by decide +kernel
theorem dX8_set_34 : decode cX8_set 34 = .ok (.invokestatic 68, 3) := by decide +kernel
theorem dX8_set_37 : decode cX8_set 37 = .ok (.ifCond .ne 9, 3) := by decide +kernel
theorem dX8_set_40 : decode cX8_set 40 = .ok (.aload_n 0, 1) := by decide +kernel
theorem dX8_set_41 : decode cX8_set 41 = .ok (.iconst 2, 1) := by decide +kernel
theorem dX8_set_42 : decode cX8_set 42 = .ok (.invokevirtual 77, 3) := by decide +kernel
theorem dX8_set_45 : decode cX8_set 45 = .ok (.ireturn, 1) := by decide +kernel
theorem dX8_set_46 : decode cX8_set 46 = .ok (.aload_n 0, 1) := by decide +kernel
theorem dX8_set_47 : decode cX8_set 47 = .ok (.getfield 16, 3) := by decide +kernel
theorem dX8_set_50 : decode cX8_set 50 = .ok (.bipush 40, 2) := by decide +kernel
theorem dX8_set_52 : decode cX8_set 52 = .ok (.iload_n 1, 1) := by decide +kernel
theorem dX8_set_53 : decode cX8_set 53 = .ok (.imul, 1) := by decide +kernel
theorem dX8_set_54 : decode cX8_set 54 = .ok (.iload_n 2, 1) := by decide +kernel
theorem dX8_set_55 : decode cX8_set 55 = .ok (.iadd, 1) := by decide +kernel
theorem dX8_set_56 : decode cX8_set 56 = .ok (.aload_n 0, 1) := by decide +kernel
theorem dX8_set_57 : decode cX8_set 57 = .ok (.getfield 7, 3) := by decide +kernel
theorem dX8_set_60 : decode cX8_set 60 = .ok (.iload_n 1, 1) := by decide +kernel
theorem dX8_set_61 : decode cX8_set 61 = .ok (.iaload, 1) := by decide +kernel
theorem dX8_set_62 : decode cX8_set 62 = .ok (.iload_n 3, 1) := by decide +kernel
theorem dX8_set_63 : decode cX8_set 63 = .ok (.invokestatic 87, 3) := by decide +kernel
theorem dX8_set_66 : decode cX8_set 66 = .ok (.iastore, 1) := by decide +kernel
theorem dX8_set_67 : decode cX8_set 67 = .ok (.aload_n 0, 1) := by decide +kernel
theorem dX8_set_68 : decode cX8_set 68 = .ok (.aload_n 0, 1) := by decide +kernel
theorem dX8_set_69 : decode cX8_set 69 = .ok (.getfield 16, 3) := by decide +kernel
theorem dX8_set_72 : decode cX8_set 72 = .ok (.bipush 40, 2) := by decide +kernel
theorem dX8_set_74 : decode cX8_set 74 = .ok (.iload_n 1, 1) := by decide +kernel
theorem dX8_set_75 : decode cX8_set 75 = .ok (.imul, 1) := by decide +kernel
theorem dX8_set_76 : decode cX8_set 76 = .ok (.iload_n 2, 1) := by decide +kernel
theorem dX8_set_77 : decode cX8_set 77 = .ok (.iadd, 1) := by decide +kernel
theorem dX8_set_78 : decode cX8_set 78 = .ok (.iaload, 1) := by decide +kernel
theorem dX8_set_79 : decode cX8_set 79 = .ok (.invokevirtual 81, 3) := by decide +kernel
theorem dX8_set_82 : decode cX8_set 82 = .ok (.ireturn, 1) := by decide +kernel
theorem dX8_isPart_0 : decode cX8_isPart 0 = .ok (.iload_n 2, 1) := by decide +kernel
theorem dX8_isPart_1 : decode cX8_isPart 1 = .ok (.ifCond .lt 33, 3) := by decide +kernel
theorem dX8_isPart_4 : decode cX8_isPart 4 = .ok (.iload_n 3, 1) := by decide +kernel
theorem dX8_isPart_5 : decode cX8_isPart 5 = .ok (.ifCond .lt 29, 3) := by decide +kernel
theorem dX8_isPart_8 : decode cX8_isPart 8 = .ok (.iload_n 2, 1) := by decide +kernel
theorem dX8_isPart_9 : decode cX8_isPart 9 = .ok (.aload_n 0, 1) := by decide +kernel
theorem dX8_isPart_10 : decode cX8_isPart 10 = .ok (.getfield 13, 3) := by decide +kernel
theorem dX8_isPart_13 : decode cX8_isPart 13 = .ok (.iload_n 1, 1) := by decide +kernel
theorem dX8_isPart_14 : decode cX8_isPart 14 = .ok (.iaload, 1) := by decide +kernel
theorem dX8_isPart_15 : decode cX8_isPart 15 = .ok (.if_icmp .gt 19, 3) := by decide +kernel
theorem dX8_isPart_18 : decode cX8_isPart 18 = .ok (.iload_n 3, 1) := by decide +kernel
theorem dX8_isPart_19 : decode cX8_isPart 19 = .ok (.aload_n 0, 1) := by decide +kernel
theorem dX8_isPart_20 : decode cX8_isPart 20 = .ok (.getfield 13, 3) := by decide +kernel
theorem dX8_isPart_23 : decode cX8_isPart 23 = .ok (.iload_n 1, 1) := by decide +kernel
theorem dX8_isPart_24 : decode cX8_isPart 24 = .ok (.iaload, 1) := by decide +kernel
theorem dX8_isPart_25 : decode cX8_isPart 25 = .ok (.iload_n 2, 1) := by decide +kernel
theorem dX8_isPart_26 : decode cX8_isPart 26 = .ok (.isub, 1) := by decide +kernel
theorem dX8_isPart_27 : decode cX8_isPart 27 = .ok (.if_icmp .gt 7, 3) := by decide +kernel
theorem dX8_isPart_30 : decode cX8_isPart 30 = .ok (.iconst 1, 1) := by decide +kernel
theorem dX8_isPart_31 : decode cX8_isPart 31 = .ok (.goto 4, 3) := by decide +kernel
theorem dX8_isPart_34 : decode cX8_isPart 34 = .ok (.iconst 0, 1) := by decide +kernel
theorem dX8_isPart_35 : decode cX8_isPart 35 = .ok (.ireturn, 1) := by decide +kernel
theorem dX8_copy_0 : decode cX8_copy 0 = .ok (.iload_n 1, 1) := by decide +kernel
theorem dX8_copy_1 : decode cX8_copy 1 = .ok (.invokestatic 72, 3) := by decide +kernel
theorem dX8_copy_4 : decode cX8_copy 4 = .ok (.ifCond .eq 10, 3) := by decide +kernel
theorem dX8_copy_7 : decode cX8_copy 7 = .ok (.iload_n 3, 1) := by decide +kernel
theorem dX8_copy_8 : decode cX8_copy 8 = .ok (.invokestatic 72, 3) := by decide +kernel
theorem dX8_copy_11 : decode cX8_copy 11 = .ok (.ifCond .ne 6, 3) := by decide +kernel
theorem dX8_copy_14 : decode cX8_copy 14 = .ok (.ldc 76, 2) := by decide +kernel
theorem dX8_copy_16 : decode cX8_copy 16 = .ok (.ireturn, 1) := by decide +kernel
theorem dX8_copy_17 : decode cX8_copy 17 = .ok (.aload_n 0, 1) := by decide +kernel
theorem dX8_copy_18 : decode cX8_copy 18 = .ok (.iload_n 1, 1) := by decide +kernel
theorem dX8_copy_19 : decode cX8_copy 19 = .ok (.invokevirtual 84, 3) := by decide +kernel
theorem dX8_copy_22 : decode cX8_copy 22 = .ok (.ifCond .ne 11, 3) := by decide +kernel
theorem dX8_copy_25 : decode cX8_copy 25 = .ok (.aload_n 0, 1) := by decide +kernel
theorem dX8_copy_26 : decode cX8_copy 26 = .ok (.iload_n 3, 1) := by decide +kernel
theorem dX8_copy_27 : decode cX8_copy 27 = .ok (.invokevirtual 84, 3) := by decide +kernel
theorem dX8_copy_30 : decode cX8_copy 30 = .ok (.ifCond .eq 9, 3) := by decide +kernel
theorem dX8_copy_33 : decode cX8_copy 33 = .ok (.aload_n 0, 1) := by decide +kernel
theorem dX8_copy_34 : decode cX8_copy 34 = .ok (.iconst 1, 1) := by decide +kernel
theorem dX8_copy_35 : decode cX8_copy 35 = .ok (.invokevirtual 77, 3) := by decide +kernel
theorem dX8_copy_38 : decode cX8_copy 38 = .ok (.ireturn, 1) := by decide +kernel
theorem dX8_copy_39 : decode cX8_copy 39 = .ok (.aload_n 0, 1) := by decide +kernel
theorem dX8_copy_40 : decode cX8_copy 40 = .ok (.getfield 7, 3) := by decide +kernel
theorem dX8_copy_43 : decode cX8_copy 43 = .ok (.iload_n 1, 1) := by decide +kernel
theorem dX8_copy_44 : decode cX8_copy 44 = .ok (.iaload, 1) := by decide +kernel
theorem dX8_copy_45 : decode cX8_copy 45 = .ok (.aload_n 0, 1) := by decide +kernel
theorem dX8_copy_46 : decode cX8_copy 46 = .ok (.getfield 7, 3) := by decide +kernel
theorem dX8_copy_49 : decode cX8_copy 49 = .ok (.iload_n 3, 1) := by decide +kernel
theorem dX8_copy_50 : decode cX8_copy 50 = .ok (.iaload, 1) := by decide +kernel
theorem dX8_copy_51 : decode cX8_copy 51 = .ok (.if_icmp .eq 9, 3) := by decide +kernel
theorem dX8_copy_54 : decode cX8_copy 54 = .ok (.aload_n 0, 1) := by decide +kernel
theorem dX8_copy_55 : decode cX8_copy 55 = .ok (.iconst 5, 1) := by decide +kernel
theorem dX8_copy_56 : decode cX8_copy 56 = .ok (.invokevirtual 77, 3) := by decide +kernel
theorem dX8_copy_59 : decode cX8_copy 59 = .ok (.ireturn, 1) := by decide +kernel
theorem dX8_copy_60 : decode cX8_copy 60 = .ok (.aload_n 0, 1) := by decide +kernel
theorem dX8_copy_61 : decode cX8_copy 61 = .ok (.iload_n 1, 1) := by decide +kernel
theorem dX8_copy_62 : decode cX8_copy 62 = .ok (.iload_n 2, 1) := by decide +kernel
theorem dX8_copy_63 : decode cX8_copy 63 = .ok (.iload 5, 2) := by decide +kernel
theorem dX8_copy_65 : decode cX8_copy 65 = .ok (.invokevirtual 91, 3) := by decide +kernel
theorem dX8_copy_68 : decode cX8_copy 68 = .ok (.ifCond .eq 15, 3) := by decide +kernel
theorem dX8_copy_71 : decode cX8_copy 71 = .ok (.aload_n 0, 1) := by decide +kernel
theorem dX8_copy_72 : decode cX8_copy 72 = .ok (.iload_n 3, 1) := by decide +kernel
theorem dX8_copy_73 : decode cX8_copy 73 = .ok (.iload 4, 2) := by decide +kernel
theorem dX8_copy_75 : decode cX8_copy 75 = .ok (.iload 5, 2) := by decide +kernel
theorem dX8_copy_77 : decode cX8_copy 77 = .ok (.invokevirtual 91, 3) := by decide +kernel
theorem dX8_copy_80 : decode cX8_copy 80 = .ok (.ifCond .ne 9, 3) := by decide +kernel
theorem dX8_copy_83 : decode cX8_copy 83 = .ok (.aload_n 0, 1) := by decide +kernel
theorem dX8_copy_84 : decode cX8_copy 84 = .ok (.iconst 2, 1) := by decide +kernel
theorem dX8_copy_85 : decode cX8_copy 85 = .ok (.invokevirtual 77, 3) := by decide +kernel
theorem dX8_copy_88 : decode cX8_copy 88 = .ok (.ireturn, 1) := by decide +kernel
theorem dX8_copy_89 : decode cX8_copy 89 = .ok (.iconst 0, 1) := by decide +kernel
theorem dX8_copy_90 : decode cX8_copy 90 = .ok (.istore 6, 2) := by decide +kernel
theorem dX8_copy_92 : decode cX8_copy 92 = .ok (.iload 6, 2) := by decide +kernel
theorem dX8_copy_94 : decode cX8_copy 94 = .ok (.iload 5, 2) := by decide +kernel
theorem dX8_copy_96 : decode cX8_copy 96 = .ok (.if_icmp .ge 30, 3) := by decide +kernel
theorem dX8_copy_99 : decode cX8_copy 99 = .ok (.aload_n 0, 1) := by decide +kernel
theorem dX8_copy_100 : decode cX8_copy 100 = .ok (.getfield 19, 3) := by decide +kernel
theorem dX8_copy_103 : decode cX8_copy 103 = .ok (.iload 6, 2) := by decide +kernel
theorem dX8_copy_105 : decode cX8_copy 105 = .ok (.aload_n 0, 1) := by decide +kernel
theorem dX8_copy_106 : decode cX8_copy 106 = .ok (.getfield 16, 3) := by decide +kernel
theorem dX8_copy_109 : decode cX8_copy 109 = .ok (.bipush 40, 2) := by decide +kernel
theorem dX8_copy_111 : decode cX8_copy 111 = .ok (.iload_n 1, 1) := by decide +kernel
theorem dX8_copy_112 : decode cX8_copy 112 = .ok (.imul, 1) := by decide +kernel
theorem dX8_copy_113 : decode cX8_copy 113 = .ok (.iload_n 2, 1) := by decide +kernel
theorem dX8_copy_114 : decode cX8_copy 114 = .ok (.iadd, 1) := by decide +kernel
theorem dX8_copy_115 : decode cX8_copy 115 = .ok (.iload 6, 2) := by decide +kernel
theorem dX8_copy_117 : decode cX8_copy 117 = .ok (.iadd, 1) := by decide +kernel
theorem dX8_copy_118 : decode cX8_copy 118 = .ok (.iaload, 1) := by decide +kernel
theorem dX8_copy_119 : decode cX8_copy 119 = .ok (.iastore, 1) := by decide +kernel
theorem dX8_copy_120 : decode cX8_copy 120 = .ok (.iinc 6 1, 3) := by decide +kernel
theorem dX8_copy_123 : decode cX8_copy 123 = .ok (.goto (-31), 3) := by decide +kernel
theorem dX8_copy_126 : decode cX8_copy 126 = .ok (.iconst 0, 1) := by decide +kernel
theorem dX8_copy_127 : decode cX8_copy 127 = .ok (.istore 6, 2) := by decide +kernel
theorem dX8_copy_129 : decode cX8_copy 129 = .ok (.iload 6, 2) := by decide +kernel
theorem dX8_copy_131 : decode cX8_copy 131 = .ok (.iload 5, 2) := by decide +kernel
theorem dX8_copy_133 : decode cX8_copy 133 = .ok (.if_icmp .ge 31, 3) := by decide +kernel
theorem dX8_copy_136 : decode cX8_copy 136 = .ok (.aload_n 0, 1) := by decide +kernel
theorem dX8_copy_137 : decode cX8_copy 137 = .ok (.getfield 16, 3) := by decide +kernel
theorem dX8_copy_140 : decode cX8_copy 140 = .ok (.bipush 40, 2) := by decide +kernel
theorem dX8_copy_142 : decode cX8_copy 142 = .ok (.iload_n 3, 1) := by decide +kernel
theorem dX8_copy_143 : decode cX8_copy 143 = .ok (.imul, 1) := by decide +kernel
theorem dX8_copy_144 : decode cX8_copy 144 = .ok (.iload 4, 2) := by decide +kernel
theorem dX8_copy_146 : decode cX8_copy 146 = .ok (.iadd, 1) := by decide +kernel
theorem dX8_copy_147 : decode cX8_copy 147 = .ok (.iload 6, 2) := by decide +kernel
theorem dX8_copy_149 : decode cX8_copy 149 = .ok (.iadd, 1) := by decide +kernel
theorem dX8_copy_150 : decode cX8_copy 150 = .ok (.aload_n 0, 1) := by decide +kernel
theorem dX8_copy_151 : decode cX8_copy 151 = .ok (.getfield 19, 3) := by decide +kernel
theorem dX8_copy_154 : decode cX8_copy 154 = .ok (.iload 6, 2) := by decide +kernel
theorem dX8_copy_156 : decode cX8_copy 156 = .ok (.iaload, 1) := by decide +kernel
theorem dX8_copy_157 : decode cX8_copy 157 = .ok (.iastore, 1) := by decide +kernel
theorem dX8_copy_158 : decode cX8_copy 158 = .ok (.iinc 6 1, 3) := by decide +kernel
theorem dX8_copy_161 : decode cX8_copy 161 = .ok (.goto (-32), 3) := by decide +kernel
theorem dX8_copy_164 : decode cX8_copy 164 = .ok (.aload_n 0, 1) := by decide +kernel
theorem dX8_copy_165 : decode cX8_copy 165 = .ok (.iload 5, 2) := by decide +kernel
theorem dX8_copy_167 : decode cX8_copy 167 = .ok (.invokevirtual 81, 3) := by decide +kernel
theorem dX8_copy_170 : decode cX8_copy 170 = .ok (.ireturn, 1) := by decide +kernel
theorem dX8_drop_0 : decode cX8_drop 0 = .ok (.iload_n 1, 1) := by decide +kernel
theorem dX8_drop_1 : decode cX8_drop 1 = .ok (.invokestatic 72, 3) := by decide +kernel
theorem dX8_drop_4 : decode cX8_drop 4 = .ok (.ifCond .ne 6, 3) := by decide +kernel
theorem dX8_drop_7 : decode cX8_drop 7 = .ok (.ldc 76, 2) := by decide +kernel
theorem dX8_drop_9 : decode cX8_drop 9 = .ok (.ireturn, 1) := by decide +kernel
theorem dX8_drop_10 : decode cX8_drop 10 = .ok (.aload_n 0, 1) := by decide +kernel
theorem dX8_drop_11 : decode cX8_drop 11 = .ok (.iload_n 1, 1) := by decide +kernel
theorem dX8_drop_12 : decode cX8_drop 12 = .ok (.invokevirtual 84, 3) := by decide +kernel
theorem dX8_drop_15 : decode cX8_drop 15 = .ok (.ifCond .eq 9, 3) := by decide +kernel
theorem dX8_drop_18 : decode cX8_drop 18 = .ok (.aload_n 0, 1) := by decide +kernel
theorem dX8_drop_19 : decode cX8_drop 19 = .ok (.iconst 1, 1) := by decide +kernel
theorem dX8_drop_20 : decode cX8_drop 20 = .ok (.invokevirtual 77, 3) := by decide +kernel
theorem dX8_drop_23 : decode cX8_drop 23 = .ok (.ireturn, 1) := by decide +kernel
theorem dX8_drop_24 : decode cX8_drop 24 = .ok (.aload_n 0, 1) := by decide +kernel
theorem dX8_drop_25 : decode cX8_drop 25 = .ok (.getfield 7, 3) := by decide +kernel
theorem dX8_drop_28 : decode cX8_drop 28 = .ok (.iload_n 1, 1) := by decide +kernel
theorem dX8_drop_29 : decode cX8_drop 29 = .ok (.ldc 62, 2) := by decide +kernel
theorem dX8_drop_31 : decode cX8_drop 31 = .ok (.iastore, 1) := by decide +kernel
theorem dX8_drop_32 : decode cX8_drop 32 = .ok (.aload_n 0, 1) := by decide +kernel
theorem dX8_drop_33 : decode cX8_drop 33 = .ok (.aload_n 0, 1) := by decide +kernel
theorem dX8_drop_34 : decode cX8_drop 34 = .ok (.getfield 13, 3) := by decide +kernel
theorem dX8_drop_37 : decode cX8_drop 37 = .ok (.iload_n 1, 1) := by decide +kernel
theorem dX8_drop_38 : decode cX8_drop 38 = .ok (.iaload, 1) := by decide +kernel
theorem dX8_drop_39 : decode cX8_drop 39 = .ok (.invokevirtual 81, 3) := by decide +kernel
theorem dX8_drop_42 : decode cX8_drop 42 = .ok (.ireturn, 1) := by decide +kernel
theorem dX8_feed_0 : decode cX8_feed 0 = .ok (.iload_n 1, 1) := by decide +kernel
theorem dX8_feed_1 : decode cX8_feed 1 = .ok (.iconst 0, 1) := by decide +kernel
theorem dX8_feed_2 : decode cX8_feed 2 = .ok (.sipush 255, 3) := by decide +kernel
theorem dX8_feed_5 : decode cX8_feed 5 = .ok (.invokestatic 68, 3) := by decide +kernel
theorem dX8_feed_8 : decode cX8_feed 8 = .ok (.ifCond .ne 6, 3) := by decide +kernel
theorem dX8_feed_11 : decode cX8_feed 11 = .ok (.ldc 76, 2) := by decide +kernel
theorem dX8_feed_13 : decode cX8_feed 13 = .ok (.ireturn, 1) := by decide +kernel
theorem dX8_feed_14 : decode cX8_feed 14 = .ok (.aload_n 0, 1) := by decide +kernel
theorem dX8_feed_15 : decode cX8_feed 15 = .ok (.getfield 94, 3) := by decide +kernel
theorem dX8_feed_18 : decode cX8_feed 18 = .ok (.sipush 130, 3) := by decide +kernel
theorem dX8_feed_21 : decode cX8_feed 21 = .ok (.if_icmp .ne 6, 3) := by decide +kernel
theorem dX8_feed_24 : decode cX8_feed 24 = .ok (.ldc 97, 2) := by decide +kernel
theorem dX8_feed_26 : decode cX8_feed 26 = .ok (.ireturn, 1) := by decide +kernel
theorem dX8_feed_27 : decode cX8_feed 27 = .ok (.aload_n 0, 1) := by decide +kernel
theorem dX8_feed_28 : decode cX8_feed 28 = .ok (.getfield 22, 3) := by decide +kernel
theorem dX8_feed_31 : decode cX8_feed 31 = .ok (.aload_n 0, 1) := by decide +kernel
theorem dX8_feed_32 : decode cX8_feed 32 = .ok (.getfield 94, 3) := by decide +kernel
theorem dX8_feed_35 : decode cX8_feed 35 = .ok (.iload_n 1, 1) := by decide +kernel
theorem dX8_feed_36 : decode cX8_feed 36 = .ok (.iastore, 1) := by decide +kernel
theorem dX8_feed_37 : decode cX8_feed 37 = .ok (.aload_n 0, 1) := by decide +kernel
theorem dX8_feed_38 : decode cX8_feed 38 = .ok (.dup, 1) := by decide +kernel
theorem dX8_feed_39 : decode cX8_feed 39 = .ok (.getfield 94, 3) := by decide +kernel
theorem dX8_feed_42 : decode cX8_feed 42 = .ok (.iconst 1, 1) := by decide +kernel
theorem dX8_feed_43 : decode cX8_feed 43 = .ok (.iadd, 1) := by decide +kernel
theorem dX8_feed_44 : decode cX8_feed 44 = .ok (.putfield 94, 3) := by decide +kernel
theorem dX8_feed_47 : decode cX8_feed 47 = .ok (.aload_n 0, 1) := by decide +kernel
theorem dX8_feed_48 : decode cX8_feed 48 = .ok (.getfield 94, 3) := by decide +kernel
theorem dX8_feed_51 : decode cX8_feed 51 = .ok (.ireturn, 1) := by decide +kernel
theorem dX8_byteAt_0 : decode cX8_byteAt 0 = .ok (.iload_n 1, 1) := by decide +kernel
theorem dX8_byteAt_1 : decode cX8_byteAt 1 = .ok (.aload_n 0, 1) := by decide +kernel
theorem dX8_byteAt_2 : decode cX8_byteAt 2 = .ok (.getfield 94, 3) := by decide +kernel
theorem dX8_byteAt_5 : decode cX8_byteAt 5 = .ok (.if_icmp .ge 12, 3) := by decide +kernel
theorem dX8_byteAt_8 : decode cX8_byteAt 8 = .ok (.aload_n 0, 1) := by decide +kernel
theorem dX8_byteAt_9 : decode cX8_byteAt 9 = .ok (.getfield 22, 3) := by decide +kernel
theorem dX8_byteAt_12 : decode cX8_byteAt 12 = .ok (.iload_n 1, 1) := by decide +kernel
theorem dX8_byteAt_13 : decode cX8_byteAt 13 = .ok (.iaload, 1) := by decide +kernel
theorem dX8_byteAt_14 : decode cX8_byteAt 14 = .ok (.goto 4, 3) := by decide +kernel
theorem dX8_byteAt_17 : decode cX8_byteAt 17 = .ok (.iconst (-1), 1) := by decide +kernel
theorem dX8_byteAt_18 : decode cX8_byteAt 18 = .ok (.ireturn, 1) := by decide +kernel
theorem dX8_advances_0 : decode cX8_advances 0 = .ok (.aload_n 0, 1) := by decide +kernel
theorem dX8_advances_1 : decode cX8_advances 1 = .ok (.aload_n 0, 1) := by decide +kernel
theorem dX8_advances_2 : decode cX8_advances 2 = .ok (.getfield 98, 3) := by decide +kernel
theorem dX8_advances_5 : decode cX8_advances 5 = .ok (.putfield 101, 3) := by decide +kernel
theorem dX8_advances_8 : decode cX8_advances 8 = .ok (.aload_n 0, 1) := by decide +kernel
theorem dX8_advances_9 : decode cX8_advances 9 = .ok (.aload_n 0, 1) := by decide +kernel
theorem dX8_advances_10 : decode cX8_advances 10 = .ok (.getfield 98, 3) := by decide +kernel
theorem dX8_advances_13 : decode cX8_advances 13 = .ok (.invokevirtual 104, 3) := by decide +kernel
theorem dX8_advances_16 : decode cX8_advances 16 = .ok (.istore_n 1, 1) := by decide +kernel
theorem dX8_advances_17 : decode cX8_advances 17 = .ok (.aload_n 0, 1) := by decide +kernel
theorem dX8_advances_18 : decode cX8_advances 18 = .ok (.iload_n 1, 1) := by decide +kernel
theorem dX8_advances_19 : decode cX8_advances 19 = .ok (.putfield 107, 3) := by decide +kernel
theorem dX8_advances_22 : decode cX8_advances 22 = .ok (.iload_n 1, 1) := by decide +kernel
theorem dX8_advances_23 : decode cX8_advances 23 = .ok (.bipush 48, 2) := by decide +kernel
theorem dX8_advances_25 : decode cX8_advances 25 = .ok (.bipush 57, 2) := by decide +kernel
theorem dX8_advances_27 : decode cX8_advances 27 = .ok (.invokestatic 68, 3) := by decide +kernel
theorem dX8_advances_30 : decode cX8_advances 30 = .ok (.ifCond .eq 105, 3) := by decide +kernel
theorem dX8_advances_33 : decode cX8_advances 33 = .ok (.aload_n 0, 1) := by decide +kernel
theorem dX8_advances_34 : decode cX8_advances 34 = .ok (.iconst 0, 1) := by decide +kernel
theorem dX8_advances_35 : decode cX8_advances 35 = .ok (.putfield 107, 3) := by decide +kernel
theorem dX8_advances_38 : decode cX8_advances 38 = .ok (.aload_n 0, 1) := by decide +kernel
theorem dX8_advances_39 : decode cX8_advances 39 = .ok (.aload_n 0, 1) := by decide +kernel
theorem dX8_advances_40 : decode cX8_advances 40 = .ok (.getfield 98, 3) := by decide +kernel
theorem dX8_advances_43 : decode cX8_advances 43 = .ok (.invokevirtual 104, 3) := by decide +kernel
theorem dX8_advances_46 : decode cX8_advances 46 = .ok (.bipush 48, 2) := by decide +kernel
theorem dX8_advances_48 : decode cX8_advances 48 = .ok (.bipush 57, 2) := by decide +kernel
theorem dX8_advances_50 : decode cX8_advances 50 = .ok (.invokestatic 68, 3) := by decide +kernel
theorem dX8_advances_53 : decode cX8_advances 53 = .ok (.ifCond .eq 59, 3) := by decide +kernel
theorem dX8_advances_56 : decode cX8_advances 56 = .ok (.aload_n 0, 1) := by decide +kernel
theorem dX8_advances_57 : decode cX8_advances 57 = .ok (.aload_n 0, 1) := by decide +kernel
theorem dX8_advances_58 : decode cX8_advances 58 = .ok (.getfield 98, 3) := by decide +kernel
theorem dX8_advances_61 : decode cX8_advances 61 = .ok (.aload_n 0, 1) := by decide +kernel
theorem dX8_advances_62 : decode cX8_advances 62 = .ok (.getfield 101, 3) := by decide +kernel
theorem dX8_advances_65 : decode cX8_advances 65 = .ok (.isub, 1) := by decide +kernel
theorem dX8_advances_66 : decode cX8_advances 66 = .ok (.iconst 2, 1) := by decide +kernel
theorem dX8_advances_67 : decode cX8_advances 67 = .ok (.if_icmp .ge 25, 3) := by decide +kernel
theorem dX8_advances_70 : decode cX8_advances 70 = .ok (.bipush 10, 2) := by decide +kernel
theorem dX8_advances_72 : decode cX8_advances 72 = .ok (.aload_n 0, 1) := by decide +kernel
theorem dX8_advances_73 : decode cX8_advances 73 = .ok (.getfield 107, 3) := by decide +kernel
theorem dX8_advances_76 : decode cX8_advances 76 = .ok (.imul, 1) := by decide +kernel
theorem dX8_advances_77 : decode cX8_advances 77 = .ok (.aload_n 0, 1) := by decide +kernel
theorem dX8_advances_78 : decode cX8_advances 78 = .ok (.aload_n 0, 1) := by decide +kernel
theorem dX8_advances_79 : decode cX8_advances 79 = .ok (.getfield 98, 3) := by decide +kernel
theorem dX8_advances_82 : decode cX8_advances 82 = .ok (.invokevirtual 104, 3) := by decide +kernel
theorem dX8_advances_85 : decode cX8_advances 85 = .ok (.iadd, 1) := by decide +kernel
theorem dX8_advances_86 : decode cX8_advances 86 = .ok (.bipush 48, 2) := by decide +kernel
theorem dX8_advances_88 : decode cX8_advances 88 = .ok (.isub, 1) := by decide +kernel
theorem dX8_advances_89 : decode cX8_advances 89 = .ok (.goto 7, 3) := by decide +kernel
theorem dX8_advances_92 : decode cX8_advances 92 = .ok (.aload_n 0, 1) := by decide +kernel
theorem dX8_advances_93 : decode cX8_advances 93 = .ok (.getfield 107, 3) := by decide +kernel
theorem dX8_advances_96 : decode cX8_advances 96 = .ok (.putfield 107, 3) := by decide +kernel
theorem dX8_advances_99 : decode cX8_advances 99 = .ok (.aload_n 0, 1) := by decide +kernel
theorem dX8_advances_100 : decode cX8_advances 100 = .ok (.dup, 1) := by decide +kernel
theorem dX8_advances_101 : decode cX8_advances 101 = .ok (.getfield 98, 3) := by decide +kernel
theorem dX8_advances_104 : decode cX8_advances 104 = .ok (.iconst 1, 1) := by decide +kernel
theorem dX8_advances_105 : decode cX8_advances 105 = .ok (.iadd, 1) := by decide +kernel
theorem dX8_advances_106 : decode cX8_advances 106 = .ok (.putfield 98, 3) := by decide +kernel
theorem dX8_advances_109 : decode cX8_advances 109 = .ok (.goto (-71), 3) := by decide +kernel
theorem dX8_advances_112 : decode cX8_advances 112 = .ok (.aload_n 0, 1) := by decide +kernel
theorem dX8_advances_113 : decode cX8_advances 113 = .ok (.aload_n 0, 1) := by decide +kernel
theorem dX8_advances_114 : decode cX8_advances 114 = .ok (.getfield 98, 3) := by decide +kernel
theorem dX8_advances_117 : decode cX8_advances 117 = .ok (.aload_n 0, 1) := by decide +kernel
theorem dX8_advances_118 : decode cX8_advances 118 = .ok (.getfield 101, 3) := by decide +kernel
theorem dX8_advances_121 : decode cX8_advances 121 = .ok (.isub, 1) := by decide +kernel
theorem dX8_advances_122 : decode cX8_advances 122 = .ok (.iconst 3, 1) := by decide +kernel
theorem dX8_advances_123 : decode cX8_advances 123 = .ok (.if_icmp .ge 7, 3) := by decide +kernel
theorem dX8_advances_126 : decode cX8_advances 126 = .ok (.iconst 2, 1) := by decide +kernel
theorem dX8_advances_127 : decode cX8_advances 127 = .ok (.goto 4, 3) := by decide +kernel
theorem dX8_advances_130 : decode cX8_advances 130 = .ok (.iconst 5, 1) := by decide +kernel
theorem dX8_advances_131 : decode cX8_advances 131 = .ok (.putfield 110, 3) := by decide +kernel
theorem dX8_advances_134 : decode cX8_advances 134 = .ok (.return_, 1) := by decide +kernel
theorem dX8_advances_135 : decode cX8_advances 135 = .ok (.aload_n 0, 1) := by decide +kernel
theorem dX8_advances_136 : decode cX8_advances 136 = .ok (.iload_n 1, 1) := by decide +kernel
theorem dX8_advances_137 : decode cX8_advances 137 = .ok (.ifCond .ge 7, 3) := by decide +kernel
theorem dX8_advances_140 : decode cX8_advances 140 = .ok (.iconst 0, 1) := by decide +kernel
theorem dX8_advances_141 : decode cX8_advances 141 = .ok (.goto 39, 3) := by decide +kernel
theorem dX8_advances_144 : decode cX8_advances 144 = .ok (.iload_n 1, 1) := by decide +kernel
theorem dX8_advances_145 : decode cX8_advances 145 = .ok (.bipush 97, 2) := by decide +kernel
theorem dX8_advances_147 : decode cX8_advances 147 = .ok (.bipush 122, 2) := by decide +kernel
theorem dX8_advances_149 : decode cX8_advances 149 = .ok (.invokestatic 68, 3) := by decide +kernel
theorem dX8_advances_152 : decode cX8_advances 152 = .ok (.ifCond .eq 7, 3) := by decide +kernel
theorem dX8_advances_155 : decode cX8_advances 155 = .ok (.iconst 1, 1) := by decide +kernel
theorem dX8_advances_156 : decode cX8_advances 156 = .ok (.goto 24, 3) := by decide +kernel
theorem dX8_advances_159 : decode cX8_advances 159 = .ok (.iload_n 1, 1) := by decide +kernel
theorem dX8_advances_160 : decode cX8_advances 160 = .ok (.bipush 44, 2) := by decide +kernel
theorem dX8_advances_162 : decode cX8_advances 162 = .ok (.if_icmp .ne 7, 3) := by decide +kernel
theorem dX8_advances_165 : decode cX8_advances 165 = .ok (.iconst 3, 1) := by decide +kernel
theorem dX8_advances_166 : decode cX8_advances 166 = .ok (.goto 14, 3) := by decide +kernel
theorem dX8_advances_169 : decode cX8_advances 169 = .ok (.iload_n 1, 1) := by decide +kernel
theorem dX8_advances_170 : decode cX8_advances 170 = .ok (.bipush 59, 2) := by decide +kernel
theorem dX8_advances_172 : decode cX8_advances 172 = .ok (.if_icmp .ne 7, 3) := by decide +kernel
theorem dX8_advances_175 : decode cX8_advances 175 = .ok (.iconst 4, 1) := by decide +kernel
theorem dX8_advances_176 : decode cX8_advances 176 = .ok (.goto 4, 3) := by decide +kernel
theorem dX8_advances_179 : decode cX8_advances 179 = .ok (.iconst 5, 1) := by decide +kernel
theorem dX8_advances_180 : decode cX8_advances 180 = .ok (.putfield 110, 3) := by decide +kernel
theorem dX8_advances_183 : decode cX8_advances 183 = .ok (.aload_n 0, 1) := by decide +kernel
theorem dX8_advances_184 : decode cX8_advances 184 = .ok (.dup, 1) := by decide +kernel
theorem dX8_advances_185 : decode cX8_advances 185 = .ok (.getfield 98, 3) := by decide +kernel
theorem dX8_advances_188 : decode cX8_advances 188 = .ok (.aload_n 0, 1) := by decide +kernel
theorem dX8_advances_189 : decode cX8_advances 189 = .ok (.getfield 110, 3) := by decide +kernel
theorem dX8_advances_192 : decode cX8_advances 192 = .ok (.ifCond .ne 7, 3) := by decide +kernel
theorem dX8_advances_195 : decode cX8_advances 195 = .ok (.iconst 0, 1) := by decide +kernel
theorem dX8_advances_196 : decode cX8_advances 196 = .ok (.goto 4, 3) := by decide +kernel
theorem dX8_advances_199 : decode cX8_advances 199 = .ok (.iconst 1, 1) := by decide +kernel
theorem dX8_advances_200 : decode cX8_advances 200 = .ok (.iadd, 1) := by decide +kernel
theorem dX8_advances_201 : decode cX8_advances 201 = .ok (.putfield 98, 3) := by decide +kernel
theorem dX8_advances_204 : decode cX8_advances 204 = .ok (.return_, 1) := by decide +kernel
theorem dX8_isWell_0 : decode cX8_isWell 0 = .ok (.aload_n 0, 1) := by decide +kernel
theorem dX8_isWell_1 : decode cX8_isWell 1 = .ok (.getfield 113, 3) := by decide +kernel
theorem dX8_isWell_4 : decode cX8_isWell 4 = .ok (.ifCond .ge 7, 3) := by decide +kernel
theorem dX8_isWell_7 : decode cX8_isWell 7 = .ok (.iconst 1, 1) := by decide +kernel
theorem dX8_isWell_8 : decode cX8_isWell 8 = .ok (.goto 4, 3) := by decide +kernel
theorem dX8_isWell_11 : decode cX8_isWell 11 = .ok (.iconst 0, 1) := by decide +kernel
theorem dX8_isWell_12 : decode cX8_isWell 12 = .ok (.ireturn, 1) := by decide +kernel
theorem dX8_takes_0 : decode cX8_takes 0 = .ok (.aload_n 0, 1) := by decide +kernel
theorem dX8_takes_1 : decode cX8_takes 1 = .ok (.invokevirtual 116, 3) := by decide +kernel
theorem dX8_takes_4 : decode cX8_takes 4 = .ok (.ifCond .ne 5, 3) := by decide +kernel
theorem dX8_takes_7 : decode cX8_takes 7 = .ok (.iconst 0, 1) := by decide +kernel
theorem dX8_takes_8 : decode cX8_takes 8 = .ok (.ireturn, 1) := by decide +kernel
theorem dX8_takes_9 : decode cX8_takes 9 = .ok (.iload_n 1, 1) := by decide +kernel
theorem dX8_takes_10 : decode cX8_takes 10 = .ok (.ifCond .ne 18, 3) := by decide +kernel
theorem dX8_takes_13 : decode cX8_takes 13 = .ok (.aload_n 0, 1) := by decide +kernel
theorem dX8_takes_14 : decode cX8_takes 14 = .ok (.aload_n 0, 1) := by decide +kernel
theorem dX8_takes_15 : decode cX8_takes 15 = .ok (.getfield 101, 3) := by decide +kernel
theorem dX8_takes_18 : decode cX8_takes 18 = .ok (.putfield 113, 3) := by decide +kernel
theorem dX8_takes_21 : decode cX8_takes 21 = .ok (.aload_n 0, 1) := by decide +kernel
theorem dX8_takes_22 : decode cX8_takes 22 = .ok (.iload_n 2, 1) := by decide +kernel
theorem dX8_takes_23 : decode cX8_takes 23 = .ok (.putfield 120, 3) := by decide +kernel
theorem dX8_takes_26 : decode cX8_takes 26 = .ok (.iconst 0, 1) := by decide +kernel
theorem dX8_takes_27 : decode cX8_takes 27 = .ok (.ireturn, 1) := by decide +kernel
theorem dX8_takes_28 : decode cX8_takes 28 = .ok (.aload_n 0, 1) := by decide +kernel
theorem dX8_takes_29 : decode cX8_takes 29 = .ok (.getfield 107, 3) := by decide +kernel
theorem dX8_takes_32 : decode cX8_takes 32 = .ok (.istore_n 3, 1) := by decide +kernel
theorem dX8_takes_33 : decode cX8_takes 33 = .ok (.aload_n 0, 1) := by decide +kernel
theorem dX8_takes_34 : decode cX8_takes 34 = .ok (.invokevirtual 123, 3) := by decide +kernel
theorem dX8_takes_37 : decode cX8_takes 37 = .ok (.iload_n 3, 1) := by decide +kernel
theorem dX8_takes_38 : decode cX8_takes 38 = .ok (.ireturn, 1) := by decide +kernel
theorem dX8_figure_0 : decode cX8_figure 0 = .ok (.aload_n 0, 1) := by decide +kernel
theorem dX8_figure_1 : decode cX8_figure 1 = .ok (.invokevirtual 116, 3) := by decide +kernel
theorem dX8_figure_4 : decode cX8_figure 4 = .ok (.ifCond .eq 18, 3) := by decide +kernel
theorem dX8_figure_7 : decode cX8_figure 7 = .ok (.aload_n 0, 1) := by decide +kernel
theorem dX8_figure_8 : decode cX8_figure 8 = .ok (.getfield 110, 3) := by decide +kernel
theorem dX8_figure_11 : decode cX8_figure 11 = .ok (.iconst 2, 1) := by decide +kernel
theorem dX8_figure_12 : decode cX8_figure 12 = .ok (.if_icmp .eq 10, 3) := by decide +kernel
theorem dX8_figure_15 : decode cX8_figure 15 = .ok (.aload_n 0, 1) := by decide +kernel
theorem dX8_figure_16 : decode cX8_figure 16 = .ok (.iconst 0, 1) := by decide +kernel
theorem dX8_figure_17 : decode cX8_figure 17 = .ok (.iconst 1, 1) := by decide +kernel
theorem dX8_figure_18 : decode cX8_figure 18 = .ok (.invokevirtual 126, 3) := by decide +kernel
theorem dX8_figure_21 : decode cX8_figure 21 = .ok (.ireturn, 1) := by decide +kernel
theorem dX8_figure_22 : decode cX8_figure 22 = .ok (.aload_n 0, 1) := by decide +kernel
theorem dX8_figure_23 : decode cX8_figure 23 = .ok (.aload_n 0, 1) := by decide +kernel
theorem dX8_figure_24 : decode cX8_figure 24 = .ok (.getfield 107, 3) := by decide +kernel
theorem dX8_figure_27 : decode cX8_figure 27 = .ok (.iload_n 1, 1) := by decide +kernel
theorem dX8_figure_28 : decode cX8_figure 28 = .ok (.iload_n 2, 1) := by decide +kernel
theorem dX8_figure_29 : decode cX8_figure 29 = .ok (.invokestatic 68, 3) := by decide +kernel
theorem dX8_figure_32 : decode cX8_figure 32 = .ok (.iconst 2, 1) := by decide +kernel
theorem dX8_figure_33 : decode cX8_figure 33 = .ok (.invokevirtual 126, 3) := by decide +kernel
theorem dX8_figure_36 : decode cX8_figure 36 = .ok (.ireturn, 1) := by decide +kernel
theorem dX8_kindOf_0 : decode cX8_kindOf 0 = .ok (.iload_n 0, 1) := by decide +kernel
theorem dX8_kindOf_1 : decode cX8_kindOf 1 = .ok (.bipush 99, 2) := by decide +kernel
theorem dX8_kindOf_3 : decode cX8_kindOf 3 = .ok (.if_icmp .ne 7, 3) := by decide +kernel
theorem dX8_kindOf_6 : decode cX8_kindOf 6 = .ok (.iconst 1, 1) := by decide +kernel
theorem dX8_kindOf_7 : decode cX8_kindOf 7 = .ok (.goto 44, 3) := by decide +kernel
theorem dX8_kindOf_10 : decode cX8_kindOf 10 = .ok (.iload_n 0, 1) := by decide +kernel
theorem dX8_kindOf_11 : decode cX8_kindOf 11 = .ok (.bipush 114, 2) := by decide +kernel
theorem dX8_kindOf_13 : decode cX8_kindOf 13 = .ok (.if_icmp .ne 7, 3) := by decide +kernel
theorem dX8_kindOf_16 : decode cX8_kindOf 16 = .ok (.iconst 2, 1) := by decide +kernel
theorem dX8_kindOf_17 : decode cX8_kindOf 17 = .ok (.goto 34, 3) := by decide +kernel
theorem dX8_kindOf_20 : decode cX8_kindOf 20 = .ok (.iload_n 0, 1) := by decide +kernel
theorem dX8_kindOf_21 : decode cX8_kindOf 21 = .ok (.bipush 108, 2) := by decide +kernel
theorem dX8_kindOf_23 : decode cX8_kindOf 23 = .ok (.if_icmp .ne 7, 3) := by decide +kernel
theorem dX8_kindOf_26 : decode cX8_kindOf 26 = .ok (.iconst 3, 1) := by decide +kernel
theorem dX8_kindOf_27 : decode cX8_kindOf 27 = .ok (.goto 24, 3) := by decide +kernel
theorem dX8_kindOf_30 : decode cX8_kindOf 30 = .ok (.iload_n 0, 1) := by decide +kernel
theorem dX8_kindOf_31 : decode cX8_kindOf 31 = .ok (.bipush 104, 2) := by decide +kernel
theorem dX8_kindOf_33 : decode cX8_kindOf 33 = .ok (.if_icmp .ne 7, 3) := by decide +kernel
theorem dX8_kindOf_36 : decode cX8_kindOf 36 = .ok (.iconst 4, 1) := by decide +kernel
theorem dX8_kindOf_37 : decode cX8_kindOf 37 = .ok (.goto 14, 3) := by decide +kernel
theorem dX8_kindOf_40 : decode cX8_kindOf 40 = .ok (.iload_n 0, 1) := by decide +kernel
theorem dX8_kindOf_41 : decode cX8_kindOf 41 = .ok (.bipush 111, 2) := by decide +kernel
theorem dX8_kindOf_43 : decode cX8_kindOf 43 = .ok (.if_icmp .ne 7, 3) := by decide +kernel
theorem dX8_kindOf_46 : decode cX8_kindOf 46 = .ok (.iconst 5, 1) := by decide +kernel
theorem dX8_kindOf_47 : decode cX8_kindOf 47 = .ok (.goto 4, 3) := by decide +kernel
theorem dX8_kindOf_50 : decode cX8_kindOf 50 = .ok (.iconst 0, 1) := by decide +kernel
theorem dX8_kindOf_51 : decode cX8_kindOf 51 = .ok (.ireturn, 1) := by decide +kernel
theorem dX8_isLetter_0 : decode cX8_isLetter 0 = .ok (.aload_n 0, 1) := by decide +kernel
theorem dX8_isLetter_1 : decode cX8_isLetter 1 = .ok (.invokevirtual 116, 3) := by decide +kernel
theorem dX8_isLetter_4 : decode cX8_isLetter 4 = .ok (.ifCond .eq 23, 3) := by decide +kernel
theorem dX8_isLetter_7 : decode cX8_isLetter 7 = .ok (.aload_n 0, 1) := by decide +kernel
theorem dX8_isLetter_8 : decode cX8_isLetter 8 = .ok (.getfield 110, 3) := by decide +kernel
theorem dX8_isLetter_11 : decode cX8_isLetter 11 = .ok (.iconst 1, 1) := by decide +kernel
theorem dX8_isLetter_12 : decode cX8_isLetter 12 = .ok (.if_icmp .ne 15, 3) := by decide +kernel
theorem dX8_isLetter_15 : decode cX8_isLetter 15 = .ok (.aload_n 0, 1) := by decide +kernel
theorem dX8_isLetter_16 : decode cX8_isLetter 16 = .ok (.getfield 107, 3) := by decide +kernel
theorem dX8_isLetter_19 : decode cX8_isLetter 19 = .ok (.iload_n 1, 1) := by decide +kernel
theorem dX8_isLetter_20 : decode cX8_isLetter 20 = .ok (.if_icmp .ne 7, 3) := by decide +kernel
theorem dX8_isLetter_23 : decode cX8_isLetter 23 = .ok (.iconst 1, 1) := by decide +kernel
theorem dX8_isLetter_24 : decode cX8_isLetter 24 = .ok (.goto 4, 3) := by decide +kernel
theorem dX8_isLetter_27 : decode cX8_isLetter 27 = .ok (.iconst 0, 1) := by decide +kernel
theorem dX8_isLetter_28 : decode cX8_isLetter 28 = .ok (.ireturn, 1) := by decide +kernel
theorem dX8_readsChord_0 : decode cX8_readsChord 0 = .ok (.aload_n 0, 1) := by decide +kernel
theorem dX8_readsChord_1 : decode cX8_readsChord 1 = .ok (.getfield 107, 3) := by decide +kernel
theorem dX8_readsChord_4 : decode cX8_readsChord 4 = .ok (.invokestatic 130, 3) := by decide +kernel
theorem dX8_readsChord_7 : decode cX8_readsChord 7 = .ok (.istore_n 3, 1) := by decide +kernel
theorem dX8_readsChord_8 : decode cX8_readsChord 8 = .ok (.aload_n 0, 1) := by decide +kernel
theorem dX8_readsChord_9 : decode cX8_readsChord 9 = .ok (.aload_n 0, 1) := by decide +kernel
theorem dX8_readsChord_10 : decode cX8_readsChord 10 = .ok (.getfield 110, 3) := by decide +kernel
theorem dX8_readsChord_13 : decode cX8_readsChord 13 = .ok (.iconst 1, 1) := by decide +kernel
theorem dX8_readsChord_14 : decode cX8_readsChord 14 = .ok (.if_icmp .ne 11, 3) := by decide +kernel
theorem dX8_readsChord_17 : decode cX8_readsChord 17 = .ok (.iload_n 3, 1) := by decide +kernel
theorem dX8_readsChord_18 : decode cX8_readsChord 18 = .ok (.ifCond .le 7, 3) := by decide +kernel
theorem dX8_readsChord_21 : decode cX8_readsChord 21 = .ok (.iconst 1, 1) := by decide +kernel
theorem dX8_readsChord_22 : decode cX8_readsChord 22 = .ok (.goto 4, 3) := by decide +kernel
theorem dX8_readsChord_25 : decode cX8_readsChord 25 = .ok (.iconst 0, 1) := by decide +kernel
theorem dX8_readsChord_26 : decode cX8_readsChord 26 = .ok (.iconst 1, 1) := by decide +kernel
theorem dX8_readsChord_27 : decode cX8_readsChord 27 = .ok (.invokevirtual 126, 3) := by decide +kernel
theorem dX8_readsChord_30 : decode cX8_readsChord 30 = .ok (.pop, 1) := by decide +kernel
theorem dX8_readsChord_31 : decode cX8_readsChord 31 = .ok (.aload_n 0, 1) := by decide +kernel
theorem dX8_readsChord_32 : decode cX8_readsChord 32 = .ok (.invokevirtual 116, 3) := by decide +kernel
theorem dX8_readsChord_35 : decode cX8_readsChord 35 = .ok (.ifCond .eq 29, 3) := by decide +kernel
theorem dX8_readsChord_38 : decode cX8_readsChord 38 = .ok (.aload_n 0, 1) := by decide +kernel
theorem dX8_readsChord_39 : decode cX8_readsChord 39 = .ok (.getfield 28, 3) := by decide +kernel
theorem dX8_readsChord_42 : decode cX8_readsChord 42 = .ok (.iconst 1, 1) := by decide +kernel
theorem dX8_readsChord_43 : decode cX8_readsChord 43 = .ok (.iaload, 1) := by decide +kernel
theorem dX8_readsChord_44 : decode cX8_readsChord 44 = .ok (.bipush 10, 2) := by decide +kernel
theorem dX8_readsChord_46 : decode cX8_readsChord 46 = .ok (.if_icmp .ne 18, 3) := by decide +kernel
theorem dX8_readsChord_49 : decode cX8_readsChord 49 = .ok (.aload_n 0, 1) := by decide +kernel
theorem dX8_readsChord_50 : decode cX8_readsChord 50 = .ok (.aload_n 0, 1) := by decide +kernel
theorem dX8_readsChord_51 : decode cX8_readsChord 51 = .ok (.getfield 101, 3) := by decide +kernel
theorem dX8_readsChord_54 : decode cX8_readsChord 54 = .ok (.iconst 1, 1) := by decide +kernel
theorem dX8_readsChord_55 : decode cX8_readsChord 55 = .ok (.isub, 1) := by decide +kernel
theorem dX8_readsChord_56 : decode cX8_readsChord 56 = .ok (.putfield 113, 3) := by decide +kernel
theorem dX8_readsChord_59 : decode cX8_readsChord 59 = .ok (.aload_n 0, 1) := by decide +kernel
theorem dX8_readsChord_60 : decode cX8_readsChord 60 = .ok (.iconst 3, 1) := by decide +kernel
theorem dX8_readsChord_61 : decode cX8_readsChord 61 = .ok (.putfield 120, 3) := by decide +kernel
theorem dX8_readsChord_64 : decode cX8_readsChord 64 = .ok (.iconst 0, 1) := by decide +kernel
theorem dX8_readsChord_65 : decode cX8_readsChord 65 = .ok (.istore 4, 2) := by decide +kernel
theorem dX8_readsChord_67 : decode cX8_readsChord 67 = .ok (.iconst (-1), 1) := by decide +kernel
theorem dX8_readsChord_68 : decode cX8_readsChord 68 = .ok (.istore 5, 2) := by decide +kernel
theorem dX8_readsChord_70 : decode cX8_readsChord 70 = .ok (.aload_n 0, 1) := by decide +kernel
theorem dX8_readsChord_71 : decode cX8_readsChord 71 = .ok (.invokevirtual 116, 3) := by decide +kernel
theorem dX8_readsChord_74 : decode cX8_readsChord 74 = .ok (.istore 6, 2) := by decide +kernel
theorem dX8_readsChord_76 : decode cX8_readsChord 76 = .ok (.iload 6, 2) := by decide +kernel
theorem dX8_readsChord_78 : decode cX8_readsChord 78 = .ok (.ifCond .eq 87, 3) := by decide +kernel
theorem dX8_readsChord_81 : decode cX8_readsChord 81 = .ok (.aload_n 0, 1) := by decide +kernel
theorem dX8_readsChord_82 : decode cX8_readsChord 82 = .ok (.iload 5, 2) := by decide +kernel
theorem dX8_readsChord_84 : decode cX8_readsChord 84 = .ok (.iconst 1, 1) := by decide +kernel
theorem dX8_readsChord_85 : decode cX8_readsChord 85 = .ok (.iadd, 1) := by decide +kernel
theorem dX8_readsChord_86 : decode cX8_readsChord 86 = .ok (.bipush 11, 2) := by decide +kernel
theorem dX8_readsChord_88 : decode cX8_readsChord 88 = .ok (.invokevirtual 133, 3) := by decide +kernel
theorem dX8_readsChord_91 : decode cX8_readsChord 91 = .ok (.istore 5, 2) := by decide +kernel
theorem dX8_readsChord_93 : decode cX8_readsChord 93 = .ok (.aload_n 0, 1) := by decide +kernel
theorem dX8_readsChord_94 : decode cX8_readsChord 94 = .ok (.invokevirtual 116, 3) := by decide +kernel
theorem dX8_readsChord_97 : decode cX8_readsChord 97 = .ok (.ifCond .eq 25, 3) := by decide +kernel
theorem dX8_readsChord_100 : decode cX8_readsChord 100 = .ok (.aload_n 0, 1) := by decide +kernel
theorem dX8_readsChord_101 : decode cX8_readsChord 101 = .ok (.getfield 28, 3) := by decide +kernel
theorem dX8_readsChord_104 : decode cX8_readsChord 104 = .ok (.bipush 53, 2) := by decide +kernel
theorem dX8_readsChord_106 : decode cX8_readsChord 106 = .ok (.aload_n 0, 1) := by decide +kernel
theorem dX8_readsChord_107 : decode cX8_readsChord 107 = .ok (.getfield 28, 3) := by decide +kernel
theorem dX8_readsChord_110 : decode cX8_readsChord 110 = .ok (.iconst 2, 1) := by decide +kernel
theorem dX8_readsChord_111 : decode cX8_readsChord 111 = .ok (.iaload, 1) := by decide +kernel
theorem dX8_readsChord_112 : decode cX8_readsChord 112 = .ok (.iadd, 1) := by decide +kernel
theorem dX8_readsChord_113 : decode cX8_readsChord 113 = .ok (.iload 4, 2) := by decide +kernel
theorem dX8_readsChord_115 : decode cX8_readsChord 115 = .ok (.iadd, 1) := by decide +kernel
theorem dX8_readsChord_116 : decode cX8_readsChord 116 = .ok (.iload 5, 2) := by decide +kernel
theorem dX8_readsChord_118 : decode cX8_readsChord 118 = .ok (.iastore, 1) := by decide +kernel
theorem dX8_readsChord_119 : decode cX8_readsChord 119 = .ok (.iinc 4 1, 3) := by decide +kernel
theorem dX8_readsChord_122 : decode cX8_readsChord 122 = .ok (.aload_n 0, 1) := by decide +kernel
theorem dX8_readsChord_123 : decode cX8_readsChord 123 = .ok (.invokevirtual 116, 3) := by decide +kernel
theorem dX8_readsChord_126 : decode cX8_readsChord 126 = .ok (.ifCond .eq 21, 3) := by decide +kernel
theorem dX8_readsChord_129 : decode cX8_readsChord 129 = .ok (.aload_n 0, 1) := by decide +kernel
theorem dX8_readsChord_130 : decode cX8_readsChord 130 = .ok (.getfield 110, 3) := by decide +kernel
theorem dX8_readsChord_133 : decode cX8_readsChord 133 = .ok (.iconst 3, 1) := by decide +kernel
theorem dX8_readsChord_134 : decode cX8_readsChord 134 = .ok (.if_icmp .ne 13, 3) := by decide +kernel
theorem dX8_readsChord_137 : decode cX8_readsChord 137 = .ok (.iload 4, 2) := by decide +kernel
theorem dX8_readsChord_139 : decode cX8_readsChord 139 = .ok (.iconst 4, 1) := by decide +kernel
theorem dX8_readsChord_140 : decode cX8_readsChord 140 = .ok (.if_icmp .ge 7, 3) := by decide +kernel
theorem dX8_readsChord_143 : decode cX8_readsChord 143 = .ok (.iconst 1, 1) := by decide +kernel
theorem dX8_readsChord_144 : decode cX8_readsChord 144 = .ok (.goto 4, 3) := by decide +kernel
theorem dX8_readsChord_147 : decode cX8_readsChord 147 = .ok (.iconst 0, 1) := by decide +kernel
theorem dX8_readsChord_148 : decode cX8_readsChord 148 = .ok (.istore 6, 2) := by decide +kernel
theorem dX8_readsChord_150 : decode cX8_readsChord 150 = .ok (.iload 6, 2) := by decide +kernel
theorem dX8_readsChord_152 : decode cX8_readsChord 152 = .ok (.ifCond .eq (-76), 3) := by decide +kernel
theorem dX8_readsChord_155 : decode cX8_readsChord 155 = .ok (.aload_n 0, 1) := by decide +kernel
theorem dX8_readsChord_156 : decode cX8_readsChord 156 = .ok (.iconst 1, 1) := by decide +kernel
theorem dX8_readsChord_157 : decode cX8_readsChord 157 = .ok (.iconst 1, 1) := by decide +kernel
theorem dX8_readsChord_158 : decode cX8_readsChord 158 = .ok (.invokevirtual 126, 3) := by decide +kernel
theorem dX8_readsChord_161 : decode cX8_readsChord 161 = .ok (.pop, 1) := by decide +kernel
theorem dX8_readsChord_162 : decode cX8_readsChord 162 = .ok (.goto (-86), 3) := by decide +kernel
theorem dX8_readsChord_165 : decode cX8_readsChord 165 = .ok (.aload_n 0, 1) := by decide +kernel
theorem dX8_readsChord_166 : decode cX8_readsChord 166 = .ok (.aload_n 0, 1) := by decide +kernel
theorem dX8_readsChord_167 : decode cX8_readsChord 167 = .ok (.getfield 110, 3) := by decide +kernel
theorem dX8_readsChord_170 : decode cX8_readsChord 170 = .ok (.iconst 4, 1) := by decide +kernel
theorem dX8_readsChord_171 : decode cX8_readsChord 171 = .ok (.if_icmp .ne 7, 3) := by decide +kernel
theorem dX8_readsChord_174 : decode cX8_readsChord 174 = .ok (.iconst 1, 1) := by decide +kernel
theorem dX8_readsChord_175 : decode cX8_readsChord 175 = .ok (.goto 4, 3) := by decide +kernel
theorem dX8_readsChord_178 : decode cX8_readsChord 178 = .ok (.iconst 0, 1) := by decide +kernel
theorem dX8_readsChord_179 : decode cX8_readsChord 179 = .ok (.iconst 1, 1) := by decide +kernel
theorem dX8_readsChord_180 : decode cX8_readsChord 180 = .ok (.invokevirtual 126, 3) := by decide +kernel
theorem dX8_readsChord_183 : decode cX8_readsChord 183 = .ok (.pop, 1) := by decide +kernel
theorem dX8_readsChord_184 : decode cX8_readsChord 184 = .ok (.aload_n 0, 1) := by decide +kernel
theorem dX8_readsChord_185 : decode cX8_readsChord 185 = .ok (.invokevirtual 116, 3) := by decide +kernel
theorem dX8_readsChord_188 : decode cX8_readsChord 188 = .ok (.ifCond .eq 106, 3) := by decide +kernel
theorem dX8_readsChord_191 : decode cX8_readsChord 191 = .ok (.iconst 3, 1) := by decide +kernel
theorem dX8_readsChord_192 : decode cX8_readsChord 192 = .ok (.iconst 5, 1) := by decide +kernel
theorem dX8_readsChord_193 : decode cX8_readsChord 193 = .ok (.aload_n 0, 1) := by decide +kernel
theorem dX8_readsChord_194 : decode cX8_readsChord 194 = .ok (.getfield 28, 3) := by decide +kernel
theorem dX8_readsChord_197 : decode cX8_readsChord 197 = .ok (.iconst 1, 1) := by decide +kernel
theorem dX8_readsChord_198 : decode cX8_readsChord 198 = .ok (.iaload, 1) := by decide +kernel
theorem dX8_readsChord_199 : decode cX8_readsChord 199 = .ok (.imul, 1) := by decide +kernel
theorem dX8_readsChord_200 : decode cX8_readsChord 200 = .ok (.iadd, 1) := by decide +kernel
theorem dX8_readsChord_201 : decode cX8_readsChord 201 = .ok (.istore 7, 2) := by decide +kernel
theorem dX8_readsChord_203 : decode cX8_readsChord 203 = .ok (.aload_n 0, 1) := by decide +kernel
theorem dX8_readsChord_204 : decode cX8_readsChord 204 = .ok (.getfield 28, 3) := by decide +kernel
theorem dX8_readsChord_207 : decode cX8_readsChord 207 = .ok (.iload 7, 2) := by decide +kernel
theorem dX8_readsChord_209 : decode cX8_readsChord 209 = .ok (.iload_n 3, 1) := by decide +kernel
theorem dX8_readsChord_210 : decode cX8_readsChord 210 = .ok (.iastore, 1) := by decide +kernel
theorem dX8_readsChord_211 : decode cX8_readsChord 211 = .ok (.aload_n 0, 1) := by decide +kernel
theorem dX8_readsChord_212 : decode cX8_readsChord 212 = .ok (.getfield 28, 3) := by decide +kernel
theorem dX8_readsChord_215 : decode cX8_readsChord 215 = .ok (.iload 7, 2) := by decide +kernel
theorem dX8_readsChord_217 : decode cX8_readsChord 217 = .ok (.iconst 1, 1) := by decide +kernel
theorem dX8_readsChord_218 : decode cX8_readsChord 218 = .ok (.iadd, 1) := by decide +kernel
theorem dX8_readsChord_219 : decode cX8_readsChord 219 = .ok (.aload_n 0, 1) := by decide +kernel
theorem dX8_readsChord_220 : decode cX8_readsChord 220 = .ok (.getfield 28, 3) := by decide +kernel
theorem dX8_readsChord_223 : decode cX8_readsChord 223 = .ok (.iconst 2, 1) := by decide +kernel
theorem dX8_readsChord_224 : decode cX8_readsChord 224 = .ok (.iaload, 1) := by decide +kernel
theorem dX8_readsChord_225 : decode cX8_readsChord 225 = .ok (.iastore, 1) := by decide +kernel
theorem dX8_readsChord_226 : decode cX8_readsChord 226 = .ok (.aload_n 0, 1) := by decide +kernel
theorem dX8_readsChord_227 : decode cX8_readsChord 227 = .ok (.getfield 28, 3) := by decide +kernel
theorem dX8_readsChord_230 : decode cX8_readsChord 230 = .ok (.iload 7, 2) := by decide +kernel
theorem dX8_readsChord_232 : decode cX8_readsChord 232 = .ok (.iconst 2, 1) := by decide +kernel
theorem dX8_readsChord_233 : decode cX8_readsChord 233 = .ok (.iadd, 1) := by decide +kernel
theorem dX8_readsChord_234 : decode cX8_readsChord 234 = .ok (.iload 4, 2) := by decide +kernel
theorem dX8_readsChord_236 : decode cX8_readsChord 236 = .ok (.iastore, 1) := by decide +kernel
theorem dX8_readsChord_237 : decode cX8_readsChord 237 = .ok (.aload_n 0, 1) := by decide +kernel
theorem dX8_readsChord_238 : decode cX8_readsChord 238 = .ok (.getfield 28, 3) := by decide +kernel
theorem dX8_readsChord_241 : decode cX8_readsChord 241 = .ok (.iload 7, 2) := by decide +kernel
theorem dX8_readsChord_243 : decode cX8_readsChord 243 = .ok (.iconst 3, 1) := by decide +kernel
theorem dX8_readsChord_244 : decode cX8_readsChord 244 = .ok (.iadd, 1) := by decide +kernel
theorem dX8_readsChord_245 : decode cX8_readsChord 245 = .ok (.iload_n 1, 1) := by decide +kernel
theorem dX8_readsChord_246 : decode cX8_readsChord 246 = .ok (.ifCond .eq 7, 3) := by decide +kernel
theorem dX8_readsChord_249 : decode cX8_readsChord 249 = .ok (.iconst 1, 1) := by decide +kernel
theorem dX8_readsChord_250 : decode cX8_readsChord 250 = .ok (.goto 4, 3) := by decide +kernel
theorem dX8_readsChord_253 : decode cX8_readsChord 253 = .ok (.iconst 0, 1) := by decide +kernel
theorem dX8_readsChord_254 : decode cX8_readsChord 254 = .ok (.iastore, 1) := by decide +kernel
theorem dX8_readsChord_255 : decode cX8_readsChord 255 = .ok (.aload_n 0, 1) := by decide +kernel
theorem dX8_readsChord_256 : decode cX8_readsChord 256 = .ok (.getfield 28, 3) := by decide +kernel
theorem dX8_readsChord_259 : decode cX8_readsChord 259 = .ok (.iload 7, 2) := by decide +kernel
theorem dX8_readsChord_261 : decode cX8_readsChord 261 = .ok (.iconst 4, 1) := by decide +kernel
theorem dX8_readsChord_262 : decode cX8_readsChord 262 = .ok (.iadd, 1) := by decide +kernel
theorem dX8_readsChord_263 : decode cX8_readsChord 263 = .ok (.iload_n 2, 1) := by decide +kernel
theorem dX8_readsChord_264 : decode cX8_readsChord 264 = .ok (.ifCond .eq 7, 3) := by decide +kernel
theorem dX8_readsChord_267 : decode cX8_readsChord 267 = .ok (.iconst 1, 1) := by decide +kernel
theorem dX8_readsChord_268 : decode cX8_readsChord 268 = .ok (.goto 4, 3) := by decide +kernel
theorem dX8_readsChord_271 : decode cX8_readsChord 271 = .ok (.iconst 0, 1) := by decide +kernel
theorem dX8_readsChord_272 : decode cX8_readsChord 272 = .ok (.iastore, 1) := by decide +kernel
theorem dX8_readsChord_273 : decode cX8_readsChord 273 = .ok (.aload_n 0, 1) := by decide +kernel
theorem dX8_readsChord_274 : decode cX8_readsChord 274 = .ok (.getfield 28, 3) := by decide +kernel
theorem dX8_readsChord_277 : decode cX8_readsChord 277 = .ok (.iconst 1, 1) := by decide +kernel
theorem dX8_readsChord_278 : decode cX8_readsChord 278 = .ok (.dup2, 1) := by decide +kernel
theorem dX8_readsChord_279 : decode cX8_readsChord 279 = .ok (.iaload, 1) := by decide +kernel
theorem dX8_readsChord_280 : decode cX8_readsChord 280 = .ok (.iconst 1, 1) := by decide +kernel
theorem dX8_readsChord_281 : decode cX8_readsChord 281 = .ok (.iadd, 1) := by decide +kernel
theorem dX8_readsChord_282 : decode cX8_readsChord 282 = .ok (.iastore, 1) := by decide +kernel
theorem dX8_readsChord_283 : decode cX8_readsChord 283 = .ok (.aload_n 0, 1) := by decide +kernel
theorem dX8_readsChord_284 : decode cX8_readsChord 284 = .ok (.getfield 28, 3) := by decide +kernel
theorem dX8_readsChord_287 : decode cX8_readsChord 287 = .ok (.iconst 2, 1) := by decide +kernel
theorem dX8_readsChord_288 : decode cX8_readsChord 288 = .ok (.dup2, 1) := by decide +kernel
theorem dX8_readsChord_289 : decode cX8_readsChord 289 = .ok (.iaload, 1) := by decide +kernel
theorem dX8_readsChord_290 : decode cX8_readsChord 290 = .ok (.iload 4, 2) := by decide +kernel
theorem dX8_readsChord_292 : decode cX8_readsChord 292 = .ok (.iadd, 1) := by decide +kernel
theorem dX8_readsChord_293 : decode cX8_readsChord 293 = .ok (.iastore, 1) := by decide +kernel
theorem dX8_readsChord_294 : decode cX8_readsChord 294 = .ok (.return_, 1) := by decide +kernel
theorem dX8_marks_0 : decode cX8_marks 0 = .ok (.aload_n 0, 1) := by decide +kernel
theorem dX8_marks_1 : decode cX8_marks 1 = .ok (.iload_n 1, 1) := by decide +kernel
theorem dX8_marks_2 : decode cX8_marks 2 = .ok (.invokevirtual 136, 3) := by decide +kernel
theorem dX8_marks_5 : decode cX8_marks 5 = .ok (.istore_n 2, 1) := by decide +kernel
theorem dX8_marks_6 : decode cX8_marks 6 = .ok (.iload_n 2, 1) := by decide +kernel
theorem dX8_marks_7 : decode cX8_marks 7 = .ok (.ifCond .eq 29, 3) := by decide +kernel
theorem dX8_marks_10 : decode cX8_marks 10 = .ok (.aload_n 0, 1) := by decide +kernel
theorem dX8_marks_11 : decode cX8_marks 11 = .ok (.iconst 1, 1) := by decide +kernel
theorem dX8_marks_12 : decode cX8_marks 12 = .ok (.iconst 1, 1) := by decide +kernel
theorem dX8_marks_13 : decode cX8_marks 13 = .ok (.invokevirtual 126, 3) := by decide +kernel
theorem dX8_marks_16 : decode cX8_marks 16 = .ok (.pop, 1) := by decide +kernel
theorem dX8_marks_17 : decode cX8_marks 17 = .ok (.aload_n 0, 1) := by decide +kernel
theorem dX8_marks_18 : decode cX8_marks 18 = .ok (.aload_n 0, 1) := by decide +kernel
theorem dX8_marks_19 : decode cX8_marks 19 = .ok (.getfield 110, 3) := by decide +kernel
theorem dX8_marks_22 : decode cX8_marks 22 = .ok (.iconst 4, 1) := by decide +kernel
theorem dX8_marks_23 : decode cX8_marks 23 = .ok (.if_icmp .ne 7, 3) := by decide +kernel
theorem dX8_marks_26 : decode cX8_marks 26 = .ok (.iconst 1, 1) := by decide +kernel
theorem dX8_marks_27 : decode cX8_marks 27 = .ok (.goto 4, 3) := by decide +kernel
theorem dX8_marks_30 : decode cX8_marks 30 = .ok (.iconst 0, 1) := by decide +kernel
theorem dX8_marks_31 : decode cX8_marks 31 = .ok (.iconst 1, 1) := by decide +kernel
theorem dX8_marks_32 : decode cX8_marks 32 = .ok (.invokevirtual 126, 3) := by decide +kernel
theorem dX8_marks_35 : decode cX8_marks 35 = .ok (.pop, 1) := by decide +kernel
theorem dX8_marks_36 : decode cX8_marks 36 = .ok (.iload_n 2, 1) := by decide +kernel
theorem dX8_marks_37 : decode cX8_marks 37 = .ok (.ireturn, 1) := by decide +kernel
theorem dX8_piece_0 : decode cX8_piece 0 = .ok (.iconst 0, 1) := by decide +kernel
theorem dX8_piece_1 : decode cX8_piece 1 = .ok (.istore_n 1, 1) := by decide +kernel
theorem dX8_piece_2 : decode cX8_piece 2 = .ok (.iload_n 1, 1) := by decide +kernel
theorem dX8_piece_3 : decode cX8_piece 3 = .ok (.bipush 93, 2) := by decide +kernel
theorem dX8_piece_5 : decode cX8_piece 5 = .ok (.if_icmp .ge 16, 3) := by decide +kernel
theorem dX8_piece_8 : decode cX8_piece 8 = .ok (.aload_n 0, 1) := by decide +kernel
theorem dX8_piece_9 : decode cX8_piece 9 = .ok (.getfield 28, 3) := by decide +kernel
theorem dX8_piece_12 : decode cX8_piece 12 = .ok (.iload_n 1, 1) := by decide +kernel
theorem dX8_piece_13 : decode cX8_piece 13 = .ok (.iconst 0, 1) := by decide +kernel
theorem dX8_piece_14 : decode cX8_piece 14 = .ok (.iastore, 1) := by decide +kernel
theorem dX8_piece_15 : decode cX8_piece 15 = .ok (.iinc 1 1, 3) := by decide +kernel
theorem dX8_piece_18 : decode cX8_piece 18 = .ok (.goto (-16), 3) := by decide +kernel
theorem dX8_piece_21 : decode cX8_piece 21 = .ok (.aload_n 0, 1) := by decide +kernel
theorem dX8_piece_22 : decode cX8_piece 22 = .ok (.iconst 0, 1) := by decide +kernel
theorem dX8_piece_23 : decode cX8_piece 23 = .ok (.putfield 98, 3) := by decide +kernel
theorem dX8_piece_26 : decode cX8_piece 26 = .ok (.aload_n 0, 1) := by decide +kernel
theorem dX8_piece_27 : decode cX8_piece 27 = .ok (.iconst (-1), 1) := by decide +kernel
theorem dX8_piece_28 : decode cX8_piece 28 = .ok (.putfield 113, 3) := by decide +kernel
theorem dX8_piece_31 : decode cX8_piece 31 = .ok (.aload_n 0, 1) := by decide +kernel
theorem dX8_piece_32 : decode cX8_piece 32 = .ok (.invokevirtual 123, 3) := by decide +kernel
theorem dX8_piece_35 : decode cX8_piece 35 = .ok (.aload_n 0, 1) := by decide +kernel
theorem dX8_piece_36 : decode cX8_piece 36 = .ok (.aload_n 0, 1) := by decide +kernel
theorem dX8_piece_37 : decode cX8_piece 37 = .ok (.getfield 110, 3) := by decide +kernel
theorem dX8_piece_40 : decode cX8_piece 40 = .ok (.iconst 1, 1) := by decide +kernel
theorem dX8_piece_41 : decode cX8_piece 41 = .ok (.if_icmp .ne 16, 3) := by decide +kernel
theorem dX8_piece_44 : decode cX8_piece 44 = .ok (.aload_n 0, 1) := by decide +kernel
theorem dX8_piece_45 : decode cX8_piece 45 = .ok (.getfield 107, 3) := by decide +kernel
theorem dX8_piece_48 : decode cX8_piece 48 = .ok (.bipush 107, 2) := by decide +kernel
theorem dX8_piece_50 : decode cX8_piece 50 = .ok (.if_icmp .ne 7, 3) := by decide +kernel
theorem dX8_piece_53 : decode cX8_piece 53 = .ok (.iconst 1, 1) := by decide +kernel
theorem dX8_piece_54 : decode cX8_piece 54 = .ok (.goto 4, 3) := by decide +kernel
theorem dX8_piece_57 : decode cX8_piece 57 = .ok (.iconst 0, 1) := by decide +kernel
theorem dX8_piece_58 : decode cX8_piece 58 = .ok (.iconst 1, 1) := by decide +kernel
theorem dX8_piece_59 : decode cX8_piece 59 = .ok (.invokevirtual 126, 3) := by decide +kernel
theorem dX8_piece_62 : decode cX8_piece 62 = .ok (.pop, 1) := by decide +kernel
theorem dX8_piece_63 : decode cX8_piece 63 = .ok (.aload_n 0, 1) := by decide +kernel
theorem dX8_piece_64 : decode cX8_piece 64 = .ok (.getfield 28, 3) := by decide +kernel
theorem dX8_piece_67 : decode cX8_piece 67 = .ok (.iconst 0, 1) := by decide +kernel
theorem dX8_piece_68 : decode cX8_piece 68 = .ok (.aload_n 0, 1) := by decide +kernel
theorem dX8_piece_69 : decode cX8_piece 69 = .ok (.iconst 0, 1) := by decide +kernel
theorem dX8_piece_70 : decode cX8_piece 70 = .ok (.bipush 14, 2) := by decide +kernel
theorem dX8_piece_72 : decode cX8_piece 72 = .ok (.invokevirtual 133, 3) := by decide +kernel
theorem dX8_piece_75 : decode cX8_piece 75 = .ok (.iastore, 1) := by decide +kernel
theorem dX8_piece_76 : decode cX8_piece 76 = .ok (.aload_n 0, 1) := by decide +kernel
theorem dX8_piece_77 : decode cX8_piece 77 = .ok (.aload_n 0, 1) := by decide +kernel
theorem dX8_piece_78 : decode cX8_piece 78 = .ok (.getfield 110, 3) := by decide +kernel
theorem dX8_piece_81 : decode cX8_piece 81 = .ok (.iconst 4, 1) := by decide +kernel
theorem dX8_piece_82 : decode cX8_piece 82 = .ok (.if_icmp .ne 7, 3) := by decide +kernel
theorem dX8_piece_85 : decode cX8_piece 85 = .ok (.iconst 1, 1) := by decide +kernel
theorem dX8_piece_86 : decode cX8_piece 86 = .ok (.goto 4, 3) := by decide +kernel
theorem dX8_piece_89 : decode cX8_piece 89 = .ok (.iconst 0, 1) := by decide +kernel
theorem dX8_piece_90 : decode cX8_piece 90 = .ok (.iconst 1, 1) := by decide +kernel
theorem dX8_piece_91 : decode cX8_piece 91 = .ok (.invokevirtual 126, 3) := by decide +kernel
theorem dX8_piece_94 : decode cX8_piece 94 = .ok (.pop, 1) := by decide +kernel
theorem dX8_piece_95 : decode cX8_piece 95 = .ok (.iconst 1, 1) := by decide +kernel
theorem dX8_piece_96 : decode cX8_piece 96 = .ok (.istore_n 1, 1) := by decide +kernel
theorem dX8_piece_97 : decode cX8_piece 97 = .ok (.iconst 1, 1) := by decide +kernel
theorem dX8_piece_98 : decode cX8_piece 98 = .ok (.istore_n 2, 1) := by decide +kernel
theorem dX8_piece_99 : decode cX8_piece 99 = .ok (.aload_n 0, 1) := by decide +kernel
theorem dX8_piece_100 : decode cX8_piece 100 = .ok (.iload_n 1, 1) := by decide +kernel
theorem dX8_piece_101 : decode cX8_piece 101 = .ok (.iload_n 2, 1) := by decide +kernel
theorem dX8_piece_102 : decode cX8_piece 102 = .ok (.invokevirtual 139, 3) := by decide +kernel
theorem dX8_piece_105 : decode cX8_piece 105 = .ok (.aload_n 0, 1) := by decide +kernel
theorem dX8_piece_106 : decode cX8_piece 106 = .ok (.invokevirtual 116, 3) := by decide +kernel
theorem dX8_piece_109 : decode cX8_piece 109 = .ok (.ifCond .eq 14, 3) := by decide +kernel
theorem dX8_piece_112 : decode cX8_piece 112 = .ok (.aload_n 0, 1) := by decide +kernel
theorem dX8_piece_113 : decode cX8_piece 113 = .ok (.getfield 110, 3) := by decide +kernel
theorem dX8_piece_116 : decode cX8_piece 116 = .ok (.ifCond .eq 7, 3) := by decide +kernel
theorem dX8_piece_119 : decode cX8_piece 119 = .ok (.iconst 1, 1) := by decide +kernel
theorem dX8_piece_120 : decode cX8_piece 120 = .ok (.goto 4, 3) := by decide +kernel
theorem dX8_piece_123 : decode cX8_piece 123 = .ok (.iconst 0, 1) := by decide +kernel
theorem dX8_piece_124 : decode cX8_piece 124 = .ok (.istore_n 3, 1) := by decide +kernel
theorem dX8_piece_125 : decode cX8_piece 125 = .ok (.iload_n 3, 1) := by decide +kernel
theorem dX8_piece_126 : decode cX8_piece 126 = .ok (.ifCond .eq 16, 3) := by decide +kernel
theorem dX8_piece_129 : decode cX8_piece 129 = .ok (.aload_n 0, 1) := by decide +kernel
theorem dX8_piece_130 : decode cX8_piece 130 = .ok (.bipush 98, 2) := by decide +kernel
theorem dX8_piece_132 : decode cX8_piece 132 = .ok (.invokevirtual 143, 3) := by decide +kernel
theorem dX8_piece_135 : decode cX8_piece 135 = .ok (.ifCond .eq 7, 3) := by decide +kernel
theorem dX8_piece_138 : decode cX8_piece 138 = .ok (.iconst 1, 1) := by decide +kernel
theorem dX8_piece_139 : decode cX8_piece 139 = .ok (.goto 4, 3) := by decide +kernel
theorem dX8_piece_142 : decode cX8_piece 142 = .ok (.iconst 0, 1) := by decide +kernel
theorem dX8_piece_143 : decode cX8_piece 143 = .ok (.istore_n 1, 1) := by decide +kernel
theorem dX8_piece_144 : decode cX8_piece 144 = .ok (.iload_n 3, 1) := by decide +kernel
theorem dX8_piece_145 : decode cX8_piece 145 = .ok (.ifCond .eq 16, 3) := by decide +kernel
theorem dX8_piece_148 : decode cX8_piece 148 = .ok (.aload_n 0, 1) := by decide +kernel
theorem dX8_piece_149 : decode cX8_piece 149 = .ok (.bipush 102, 2) := by decide +kernel
theorem dX8_piece_151 : decode cX8_piece 151 = .ok (.invokevirtual 143, 3) := by decide +kernel
theorem dX8_piece_154 : decode cX8_piece 154 = .ok (.ifCond .eq 7, 3) := by decide +kernel
theorem dX8_piece_157 : decode cX8_piece 157 = .ok (.iconst 1, 1) := by decide +kernel
theorem dX8_piece_158 : decode cX8_piece 158 = .ok (.goto 4, 3) := by decide +kernel
theorem dX8_piece_161 : decode cX8_piece 161 = .ok (.iconst 0, 1) := by decide +kernel
theorem dX8_piece_162 : decode cX8_piece 162 = .ok (.istore_n 2, 1) := by decide +kernel
theorem dX8_piece_163 : decode cX8_piece 163 = .ok (.aload_n 0, 1) := by decide +kernel
theorem dX8_piece_164 : decode cX8_piece 164 = .ok (.invokevirtual 116, 3) := by decide +kernel
theorem dX8_piece_167 : decode cX8_piece 167 = .ok (.ifCond .eq 18, 3) := by decide +kernel
theorem dX8_piece_170 : decode cX8_piece 170 = .ok (.iload_n 1, 1) := by decide +kernel
theorem dX8_piece_171 : decode cX8_piece 171 = .ok (.ifCond .ne (-72), 3) := by decide +kernel
theorem dX8_piece_174 : decode cX8_piece 174 = .ok (.iload_n 2, 1) := by decide +kernel
theorem dX8_piece_175 : decode cX8_piece 175 = .ok (.ifCond .ne (-76), 3) := by decide +kernel
theorem dX8_piece_178 : decode cX8_piece 178 = .ok (.aload_n 0, 1) := by decide +kernel
theorem dX8_piece_179 : decode cX8_piece 179 = .ok (.getfield 110, 3) := by decide +kernel
theorem dX8_piece_182 : decode cX8_piece 182 = .ok (.ifCond .ne (-83), 3) := by decide +kernel
theorem dX8_piece_185 : decode cX8_piece 185 = .ok (.aload_n 0, 1) := by decide +kernel
theorem dX8_piece_186 : decode cX8_piece 186 = .ok (.iconst 0, 1) := by decide +kernel
theorem dX8_piece_187 : decode cX8_piece 187 = .ok (.putfield 94, 3) := by decide +kernel
theorem dX8_piece_190 : decode cX8_piece 190 = .ok (.aload_n 0, 1) := by decide +kernel
theorem dX8_piece_191 : decode cX8_piece 191 = .ok (.invokevirtual 116, 3) := by decide +kernel
theorem dX8_piece_194 : decode cX8_piece 194 = .ok (.ifCond .ne 11, 3) := by decide +kernel
theorem dX8_piece_197 : decode cX8_piece 197 = .ok (.ldc 146, 2) := by decide +kernel
theorem dX8_piece_199 : decode cX8_piece 199 = .ok (.aload_n 0, 1) := by decide +kernel
theorem dX8_piece_200 : decode cX8_piece 200 = .ok (.getfield 113, 3) := by decide +kernel
theorem dX8_piece_203 : decode cX8_piece 203 = .ok (.isub, 1) := by decide +kernel
theorem dX8_piece_204 : decode cX8_piece 204 = .ok (.ireturn, 1) := by decide +kernel
theorem dX8_piece_205 : decode cX8_piece 205 = .ok (.aload_n 0, 1) := by decide +kernel
theorem dX8_piece_206 : decode cX8_piece 206 = .ok (.getfield 28, 3) := by decide +kernel
theorem dX8_piece_209 : decode cX8_piece 209 = .ok (.iconst 0, 1) := by decide +kernel
theorem dX8_piece_210 : decode cX8_piece 210 = .ok (.aload_n 0, 1) := by decide +kernel
theorem dX8_piece_211 : decode cX8_piece 211 = .ok (.getfield 25, 3) := by decide +kernel
theorem dX8_piece_214 : decode cX8_piece 214 = .ok (.iconst 0, 1) := by decide +kernel
theorem dX8_piece_215 : decode cX8_piece 215 = .ok (.invokestatic 147, 3) := by decide +kernel
theorem dX8_piece_218 : decode cX8_piece 218 = .ok (.aload_n 0, 1) := by decide +kernel
theorem dX8_piece_219 : decode cX8_piece 219 = .ok (.iconst 0, 1) := by decide +kernel
theorem dX8_piece_220 : decode cX8_piece 220 = .ok (.putfield 151, 3) := by decide +kernel
theorem dX8_piece_223 : decode cX8_piece 223 = .ok (.aload_n 0, 1) := by decide +kernel
theorem dX8_piece_224 : decode cX8_piece 224 = .ok (.getfield 25, 3) := by decide +kernel
theorem dX8_piece_227 : decode cX8_piece 227 = .ok (.iconst 1, 1) := by decide +kernel
theorem dX8_piece_228 : decode cX8_piece 228 = .ok (.iaload, 1) := by decide +kernel
theorem dX8_piece_229 : decode cX8_piece 229 = .ok (.ireturn, 1) := by decide +kernel
theorem dX8_fault_0 : decode cX8_fault 0 = .ok (.aload_n 0, 1) := by decide +kernel
theorem dX8_fault_1 : decode cX8_fault 1 = .ok (.getfield 120, 3) := by decide +kernel
theorem dX8_fault_4 : decode cX8_fault 4 = .ok (.ireturn, 1) := by decide +kernel
theorem dX8_isPiece_0 : decode cX8_isPiece 0 = .ok (.aload_n 0, 1) := by decide +kernel
theorem dX8_isPiece_1 : decode cX8_isPiece 1 = .ok (.getfield 25, 3) := by decide +kernel
theorem dX8_isPiece_4 : decode cX8_isPiece 4 = .ok (.iconst 1, 1) := by decide +kernel
theorem dX8_isPiece_5 : decode cX8_isPiece 5 = .ok (.iaload, 1) := by decide +kernel
theorem dX8_isPiece_6 : decode cX8_isPiece 6 = .ok (.ifCond .le 7, 3) := by decide +kernel
theorem dX8_isPiece_9 : decode cX8_isPiece 9 = .ok (.iconst 1, 1) := by decide +kernel
theorem dX8_isPiece_10 : decode cX8_isPiece 10 = .ok (.goto 4, 3) := by decide +kernel
theorem dX8_isPiece_13 : decode cX8_isPiece 13 = .ok (.iconst 0, 1) := by decide +kernel
theorem dX8_isPiece_14 : decode cX8_isPiece 14 = .ok (.ireturn, 1) := by decide +kernel
theorem dX8_isChord_0 : decode cX8_isChord 0 = .ok (.iload_n 1, 1) := by decide +kernel
theorem dX8_isChord_1 : decode cX8_isChord 1 = .ok (.iconst 0, 1) := by decide +kernel
theorem dX8_isChord_2 : decode cX8_isChord 2 = .ok (.aload_n 0, 1) := by decide +kernel
theorem dX8_isChord_3 : decode cX8_isChord 3 = .ok (.getfield 25, 3) := by decide +kernel
theorem dX8_isChord_6 : decode cX8_isChord 6 = .ok (.iconst 1, 1) := by decide +kernel
theorem dX8_isChord_7 : decode cX8_isChord 7 = .ok (.iaload, 1) := by decide +kernel
theorem dX8_isChord_8 : decode cX8_isChord 8 = .ok (.iconst 1, 1) := by decide +kernel
theorem dX8_isChord_9 : decode cX8_isChord 9 = .ok (.isub, 1) := by decide +kernel
theorem dX8_isChord_10 : decode cX8_isChord 10 = .ok (.invokestatic 68, 3) := by decide +kernel
theorem dX8_isChord_13 : decode cX8_isChord 13 = .ok (.ireturn, 1) := by decide +kernel
theorem dX8_isNote_0 : decode cX8_isNote 0 = .ok (.iload_n 1, 1) := by decide +kernel
theorem dX8_isNote_1 : decode cX8_isNote 1 = .ok (.iconst 0, 1) := by decide +kernel
theorem dX8_isNote_2 : decode cX8_isNote 2 = .ok (.aload_n 0, 1) := by decide +kernel
theorem dX8_isNote_3 : decode cX8_isNote 3 = .ok (.getfield 25, 3) := by decide +kernel
theorem dX8_isNote_6 : decode cX8_isNote 6 = .ok (.iconst 2, 1) := by decide +kernel
theorem dX8_isNote_7 : decode cX8_isNote 7 = .ok (.iaload, 1) := by decide +kernel
theorem dX8_isNote_8 : decode cX8_isNote 8 = .ok (.iconst 1, 1) := by decide +kernel
theorem dX8_isNote_9 : decode cX8_isNote 9 = .ok (.isub, 1) := by decide +kernel
theorem dX8_isNote_10 : decode cX8_isNote 10 = .ok (.invokestatic 68, 3) := by decide +kernel
theorem dX8_isNote_13 : decode cX8_isNote 13 = .ok (.ireturn, 1) := by decide +kernel
theorem dX8_over_0 : decode cX8_over 0 = .ok (.iload_n 0, 1) := by decide +kernel
theorem dX8_over_1 : decode cX8_over 1 = .ok (.iload_n 1, 1) := by decide +kernel
theorem dX8_over_2 : decode cX8_over 2 = .ok (.irem, 1) := by decide +kernel
theorem dX8_over_3 : decode cX8_over 3 = .ok (.istore_n 2, 1) := by decide +kernel
theorem dX8_over_4 : decode cX8_over 4 = .ok (.iload_n 2, 1) := by decide +kernel
theorem dX8_over_5 : decode cX8_over 5 = .ok (.ifCond .ge 9, 3) := by decide +kernel
theorem dX8_over_8 : decode cX8_over 8 = .ok (.iload_n 2, 1) := by decide +kernel
theorem dX8_over_9 : decode cX8_over 9 = .ok (.iload_n 1, 1) := by decide +kernel
theorem dX8_over_10 : decode cX8_over 10 = .ok (.iadd, 1) := by decide +kernel
theorem dX8_over_11 : decode cX8_over 11 = .ok (.goto 4, 3) := by decide +kernel
theorem dX8_over_14 : decode cX8_over 14 = .ok (.iload_n 2, 1) := by decide +kernel
theorem dX8_over_15 : decode cX8_over 15 = .ok (.ireturn, 1) := by decide +kernel
theorem dX8_letterOf_0 : decode cX8_letterOf 0 = .ok (.iload_n 0, 1) := by decide +kernel
theorem dX8_letterOf_1 : decode cX8_letterOf 1 = .ok (.iconst 1, 1) := by decide +kernel
theorem dX8_letterOf_2 : decode cX8_letterOf 2 = .ok (.iadd, 1) := by decide +kernel
theorem dX8_letterOf_3 : decode cX8_letterOf 3 = .ok (.bipush 7, 2) := by decide +kernel
theorem dX8_letterOf_5 : decode cX8_letterOf 5 = .ok (.invokestatic 154, 3) := by decide +kernel
theorem dX8_letterOf_8 : decode cX8_letterOf 8 = .ok (.ireturn, 1) := by decide +kernel
theorem dX8_alterOf_0 : decode cX8_alterOf 0 = .ok (.iload_n 0, 1) := by decide +kernel
theorem dX8_alterOf_1 : decode cX8_alterOf 1 = .ok (.iconst 1, 1) := by decide +kernel
theorem dX8_alterOf_2 : decode cX8_alterOf 2 = .ok (.iadd, 1) := by decide +kernel
theorem dX8_alterOf_3 : decode cX8_alterOf 3 = .ok (.iload_n 0, 1) := by decide +kernel
theorem dX8_alterOf_4 : decode cX8_alterOf 4 = .ok (.invokestatic 157, 3) := by decide +kernel
theorem dX8_alterOf_7 : decode cX8_alterOf 7 = .ok (.isub, 1) := by decide +kernel
theorem dX8_alterOf_8 : decode cX8_alterOf 8 = .ok (.bipush 7, 2) := by decide +kernel
theorem dX8_alterOf_10 : decode cX8_alterOf 10 = .ok (.idiv, 1) := by decide +kernel
theorem dX8_alterOf_11 : decode cX8_alterOf 11 = .ok (.ireturn, 1) := by decide +kernel
theorem dX8_keyOf_0 : decode cX8_keyOf 0 = .ok (.bipush 7, 2) := by decide +kernel
theorem dX8_keyOf_2 : decode cX8_keyOf 2 = .ok (.iload_n 0, 1) := by decide +kernel
theorem dX8_keyOf_3 : decode cX8_keyOf 3 = .ok (.imul, 1) := by decide +kernel
theorem dX8_keyOf_4 : decode cX8_keyOf 4 = .ok (.bipush 12, 2) := by decide +kernel
theorem dX8_keyOf_6 : decode cX8_keyOf 6 = .ok (.invokestatic 154, 3) := by decide +kernel
theorem dX8_keyOf_9 : decode cX8_keyOf 9 = .ok (.ireturn, 1) := by decide +kernel
theorem dX8_nameOf_0 : decode cX8_nameOf 0 = .ok (.iload_n 0, 1) := by decide +kernel
theorem dX8_nameOf_1 : decode cX8_nameOf 1 = .ok (.istore_n 2, 1) := by decide +kernel
theorem dX8_nameOf_2 : decode cX8_nameOf 2 = .ok (.iload_n 2, 1) := by decide +kernel
theorem dX8_nameOf_3 : decode cX8_nameOf 3 = .ok (.invokestatic 160, 3) := by decide +kernel
theorem dX8_nameOf_6 : decode cX8_nameOf 6 = .ok (.iload_n 1, 1) := by decide +kernel
theorem dX8_nameOf_7 : decode cX8_nameOf 7 = .ok (.if_icmp .eq 9, 3) := by decide +kernel
theorem dX8_nameOf_10 : decode cX8_nameOf 10 = .ok (.iinc 2 1, 3) := by decide +kernel
theorem dX8_nameOf_13 : decode cX8_nameOf 13 = .ok (.goto (-11), 3) := by decide +kernel
theorem dX8_nameOf_16 : decode cX8_nameOf 16 = .ok (.iload_n 2, 1) := by decide +kernel
theorem dX8_nameOf_17 : decode cX8_nameOf 17 = .ok (.ireturn, 1) := by decide +kernel
theorem dX8_headOf_0 : decode cX8_headOf 0 = .ok (.aload_n 0, 1) := by decide +kernel
theorem dX8_headOf_1 : decode cX8_headOf 1 = .ok (.iconst 0, 1) := by decide +kernel
theorem dX8_headOf_2 : decode cX8_headOf 2 = .ok (.iaload, 1) := by decide +kernel
theorem dX8_headOf_3 : decode cX8_headOf 3 = .ok (.bipush 7, 2) := by decide +kernel
theorem dX8_headOf_5 : decode cX8_headOf 5 = .ok (.isub, 1) := by decide +kernel
theorem dX8_headOf_6 : decode cX8_headOf 6 = .ok (.istore_n 2, 1) := by decide +kernel
theorem dX8_headOf_7 : decode cX8_headOf 7 = .ok (.iload_n 1, 1) := by decide +kernel
theorem dX8_headOf_8 : decode cX8_headOf 8 = .ok (.iload_n 2, 1) := by decide +kernel
theorem dX8_headOf_9 : decode cX8_headOf 9 = .ok (.if_icmp .ge 7, 3) := by decide +kernel
theorem dX8_headOf_12 : decode cX8_headOf 12 = .ok (.iconst 1, 1) := by decide +kernel
theorem dX8_headOf_13 : decode cX8_headOf 13 = .ok (.goto 16, 3) := by decide +kernel
theorem dX8_headOf_16 : decode cX8_headOf 16 = .ok (.iload_n 1, 1) := by decide +kernel
theorem dX8_headOf_17 : decode cX8_headOf 17 = .ok (.bipush 7, 2) := by decide +kernel
theorem dX8_headOf_19 : decode cX8_headOf 19 = .ok (.iload_n 2, 1) := by decide +kernel
theorem dX8_headOf_20 : decode cX8_headOf 20 = .ok (.iadd, 1) := by decide +kernel
theorem dX8_headOf_21 : decode cX8_headOf 21 = .ok (.if_icmp .lt 7, 3) := by decide +kernel
theorem dX8_headOf_24 : decode cX8_headOf 24 = .ok (.iconst (-1), 1) := by decide +kernel
theorem dX8_headOf_25 : decode cX8_headOf 25 = .ok (.goto 4, 3) := by decide +kernel
theorem dX8_headOf_28 : decode cX8_headOf 28 = .ok (.iconst 0, 1) := by decide +kernel
theorem dX8_headOf_29 : decode cX8_headOf 29 = .ok (.ireturn, 1) := by decide +kernel
theorem dX8_isHeld_0 : decode cX8_isHeld 0 = .ok (.aload_n 0, 1) := by decide +kernel
theorem dX8_isHeld_1 : decode cX8_isHeld 1 = .ok (.iconst 3, 1) := by decide +kernel
theorem dX8_isHeld_2 : decode cX8_isHeld 2 = .ok (.iconst 5, 1) := by decide +kernel
theorem dX8_isHeld_3 : decode cX8_isHeld 3 = .ok (.iload_n 1, 1) := by decide +kernel
theorem dX8_isHeld_4 : decode cX8_isHeld 4 = .ok (.imul, 1) := by decide +kernel
theorem dX8_isHeld_5 : decode cX8_isHeld 5 = .ok (.iadd, 1) := by decide +kernel
theorem dX8_isHeld_6 : decode cX8_isHeld 6 = .ok (.iaload, 1) := by decide +kernel
theorem dX8_isHeld_7 : decode cX8_isHeld 7 = .ok (.iconst 4, 1) := by decide +kernel
theorem dX8_isHeld_8 : decode cX8_isHeld 8 = .ok (.if_icmp .lt 7, 3) := by decide +kernel
theorem dX8_isHeld_11 : decode cX8_isHeld 11 = .ok (.iconst 1, 1) := by decide +kernel
theorem dX8_isHeld_12 : decode cX8_isHeld 12 = .ok (.goto 4, 3) := by decide +kernel
theorem dX8_isHeld_15 : decode cX8_isHeld 15 = .ok (.iconst 0, 1) := by decide +kernel
theorem dX8_isHeld_16 : decode cX8_isHeld 16 = .ok (.ireturn, 1) := by decide +kernel
theorem dX8_nameIn_0 : decode cX8_nameIn 0 = .ok (.iload_n 3, 1) := by decide +kernel
theorem dX8_nameIn_1 : decode cX8_nameIn 1 = .ok (.aload_n 0, 1) := by decide +kernel
theorem dX8_nameIn_2 : decode cX8_nameIn 2 = .ok (.bipush 53, 2) := by decide +kernel
theorem dX8_nameIn_4 : decode cX8_nameIn 4 = .ok (.aload_n 0, 1) := by decide +kernel
theorem dX8_nameIn_5 : decode cX8_nameIn 5 = .ok (.iconst 3, 1) := by decide +kernel
theorem dX8_nameIn_6 : decode cX8_nameIn 6 = .ok (.iconst 5, 1) := by decide +kernel
theorem dX8_nameIn_7 : decode cX8_nameIn 7 = .ok (.iload_n 1, 1) := by decide +kernel
theorem dX8_nameIn_8 : decode cX8_nameIn 8 = .ok (.imul, 1) := by decide +kernel
theorem dX8_nameIn_9 : decode cX8_nameIn 9 = .ok (.iadd, 1) := by decide +kernel
theorem dX8_nameIn_10 : decode cX8_nameIn 10 = .ok (.iconst 1, 1) := by decide +kernel
theorem dX8_nameIn_11 : decode cX8_nameIn 11 = .ok (.iadd, 1) := by decide +kernel
theorem dX8_nameIn_12 : decode cX8_nameIn 12 = .ok (.iaload, 1) := by decide +kernel
theorem dX8_nameIn_13 : decode cX8_nameIn 13 = .ok (.iadd, 1) := by decide +kernel
theorem dX8_nameIn_14 : decode cX8_nameIn 14 = .ok (.iload_n 2, 1) := by decide +kernel
theorem dX8_nameIn_15 : decode cX8_nameIn 15 = .ok (.iadd, 1) := by decide +kernel
theorem dX8_nameIn_16 : decode cX8_nameIn 16 = .ok (.iaload, 1) := by decide +kernel
theorem dX8_nameIn_17 : decode cX8_nameIn 17 = .ok (.invokestatic 163, 3) := by decide +kernel
theorem dX8_nameIn_20 : decode cX8_nameIn 20 = .ok (.ireturn, 1) := by decide +kernel
theorem dX8_priceOfName_0 : decode cX8_priceOfName 0 = .ok (.iload_n 2, 1) := by decide +kernel
theorem dX8_priceOfName_1 : decode cX8_priceOfName 1 = .ok (.invokestatic 166, 3) := by decide +kernel
theorem dX8_priceOfName_4 : decode cX8_priceOfName 4 = .ok (.istore_n 3, 1) := by decide +kernel
theorem dX8_priceOfName_5 : decode cX8_priceOfName 5 = .ok (.iload_n 3, 1) := by decide +kernel
theorem dX8_priceOfName_6 : decode cX8_priceOfName 6 = .ok (.aload_n 0, 1) := by decide +kernel
theorem dX8_priceOfName_7 : decode cX8_priceOfName 7 = .ok (.iload_n 2, 1) := by decide +kernel
theorem dX8_priceOfName_8 : decode cX8_priceOfName 8 = .ok (.invokestatic 157, 3) := by decide +kernel
theorem dX8_priceOfName_11 : decode cX8_priceOfName 11 = .ok (.invokestatic 169, 3) := by decide +kernel
theorem dX8_priceOfName_14 : decode cX8_priceOfName 14 = .ok (.isub, 1) := by decide +kernel
theorem dX8_priceOfName_15 : decode cX8_priceOfName 15 = .ok (.invokestatic 173, 3) := by decide +kernel
theorem dX8_priceOfName_18 : decode cX8_priceOfName 18 = .ok (.istore 4, 2) := by decide +kernel
theorem dX8_priceOfName_20 : decode cX8_priceOfName 20 = .ok (.aload_n 0, 1) := by decide +kernel
theorem dX8_priceOfName_21 : decode cX8_priceOfName 21 = .ok (.iconst 3, 1) := by decide +kernel
theorem dX8_priceOfName_22 : decode cX8_priceOfName 22 = .ok (.iconst 5, 1) := by decide +kernel
theorem dX8_priceOfName_23 : decode cX8_priceOfName 23 = .ok (.iload_n 1, 1) := by decide +kernel
theorem dX8_priceOfName_24 : decode cX8_priceOfName 24 = .ok (.imul, 1) := by decide +kernel
theorem dX8_priceOfName_25 : decode cX8_priceOfName 25 = .ok (.iadd, 1) := by decide +kernel
theorem dX8_priceOfName_26 : decode cX8_priceOfName 26 = .ok (.iaload, 1) := by decide +kernel
theorem dX8_priceOfName_27 : decode cX8_priceOfName 27 = .ok (.istore 5, 2) := by decide +kernel
theorem dX8_priceOfName_29 : decode cX8_priceOfName 29 = .ok (.iload 5, 2) := by decide +kernel
theorem dX8_priceOfName_31 : decode cX8_priceOfName 31 = .ok (.iconst 2, 1) := by decide +kernel
theorem dX8_priceOfName_32 : decode cX8_priceOfName 32 = .ok (.if_icmp .ne 7, 3) := by decide +kernel
theorem dX8_priceOfName_35 : decode cX8_priceOfName 35 = .ok (.iload_n 3, 1) := by decide +kernel
theorem dX8_priceOfName_36 : decode cX8_priceOfName 36 = .ok (.ifCond .gt 13, 3) := by decide +kernel
theorem dX8_priceOfName_39 : decode cX8_priceOfName 39 = .ok (.iload 5, 2) := by decide +kernel
theorem dX8_priceOfName_41 : decode cX8_priceOfName 41 = .ok (.iconst 3, 1) := by decide +kernel
theorem dX8_priceOfName_42 : decode cX8_priceOfName 42 = .ok (.if_icmp .ne 11, 3) := by decide +kernel
theorem dX8_priceOfName_45 : decode cX8_priceOfName 45 = .ok (.iload_n 3, 1) := by decide +kernel
theorem dX8_priceOfName_46 : decode cX8_priceOfName 46 = .ok (.ifCond .ge 7, 3) := by decide +kernel
theorem dX8_priceOfName_49 : decode cX8_priceOfName 49 = .ok (.iconst 1, 1) := by decide +kernel
theorem dX8_priceOfName_50 : decode cX8_priceOfName 50 = .ok (.goto 4, 3) := by decide +kernel
theorem dX8_priceOfName_53 : decode cX8_priceOfName 53 = .ok (.iconst 0, 1) := by decide +kernel
theorem dX8_priceOfName_54 : decode cX8_priceOfName 54 = .ok (.istore 6, 2) := by decide +kernel
theorem dX8_priceOfName_56 : decode cX8_priceOfName 56 = .ok (.iload 6, 2) := by decide +kernel
theorem dX8_priceOfName_58 : decode cX8_priceOfName 58 = .ok (.ifCond .eq 8, 3) := by decide +kernel
theorem dX8_priceOfName_61 : decode cX8_priceOfName 61 = .ok (.iload 4, 2) := by decide +kernel
theorem dX8_priceOfName_63 : decode cX8_priceOfName 63 = .ok (.goto 7, 3) := by decide +kernel
theorem dX8_priceOfName_66 : decode cX8_priceOfName 66 = .ok (.iconst 2, 1) := by decide +kernel
theorem dX8_priceOfName_67 : decode cX8_priceOfName 67 = .ok (.iload 4, 2) := by decide +kernel
theorem dX8_priceOfName_69 : decode cX8_priceOfName 69 = .ok (.imul, 1) := by decide +kernel
theorem dX8_priceOfName_70 : decode cX8_priceOfName 70 = .ok (.ireturn, 1) := by decide +kernel
theorem dX8_priceOf_0 : decode cX8_priceOf 0 = .ok (.iconst 0, 1) := by decide +kernel
theorem dX8_priceOf_1 : decode cX8_priceOf 1 = .ok (.istore_n 3, 1) := by decide +kernel
theorem dX8_priceOf_2 : decode cX8_priceOf 2 = .ok (.aload_n 0, 1) := by decide +kernel
theorem dX8_priceOf_3 : decode cX8_priceOf 3 = .ok (.iconst 3, 1) := by decide +kernel
theorem dX8_priceOf_4 : decode cX8_priceOf 4 = .ok (.iconst 5, 1) := by decide +kernel
theorem dX8_priceOf_5 : decode cX8_priceOf 5 = .ok (.iload_n 1, 1) := by decide +kernel
theorem dX8_priceOf_6 : decode cX8_priceOf 6 = .ok (.imul, 1) := by decide +kernel
theorem dX8_priceOf_7 : decode cX8_priceOf 7 = .ok (.iadd, 1) := by decide +kernel
theorem dX8_priceOf_8 : decode cX8_priceOf 8 = .ok (.iconst 2, 1) := by decide +kernel
theorem dX8_priceOf_9 : decode cX8_priceOf 9 = .ok (.iadd, 1) := by decide +kernel
theorem dX8_priceOf_10 : decode cX8_priceOf 10 = .ok (.iaload, 1) := by decide +kernel
theorem dX8_priceOf_11 : decode cX8_priceOf 11 = .ok (.istore 4, 2) := by decide +kernel
theorem dX8_priceOf_13 : decode cX8_priceOf 13 = .ok (.iconst 0, 1) := by decide +kernel
theorem dX8_priceOf_14 : decode cX8_priceOf 14 = .ok (.istore 5, 2) := by decide +kernel
theorem dX8_priceOf_16 : decode cX8_priceOf 16 = .ok (.iload 5, 2) := by decide +kernel
theorem dX8_priceOf_18 : decode cX8_priceOf 18 = .ok (.iload 4, 2) := by decide +kernel
theorem dX8_priceOf_20 : decode cX8_priceOf 20 = .ok (.if_icmp .ge 83, 3) := by decide +kernel
theorem dX8_priceOf_23 : decode cX8_priceOf 23 = .ok (.aload_n 0, 1) := by decide +kernel
theorem dX8_priceOf_24 : decode cX8_priceOf 24 = .ok (.iconst 3, 1) := by decide +kernel
theorem dX8_priceOf_25 : decode cX8_priceOf 25 = .ok (.iconst 5, 1) := by decide +kernel
theorem dX8_priceOf_26 : decode cX8_priceOf 26 = .ok (.iload_n 1, 1) := by decide +kernel
theorem dX8_priceOf_27 : decode cX8_priceOf 27 = .ok (.imul, 1) := by decide +kernel
theorem dX8_priceOf_28 : decode cX8_priceOf 28 = .ok (.iadd, 1) := by decide +kernel
theorem dX8_priceOf_29 : decode cX8_priceOf 29 = .ok (.iaload, 1) := by decide +kernel
theorem dX8_priceOf_30 : decode cX8_priceOf 30 = .ok (.iconst 5, 1) := by decide +kernel
theorem dX8_priceOf_31 : decode cX8_priceOf 31 = .ok (.if_icmp .eq 72, 3) := by decide +kernel
theorem dX8_priceOf_34 : decode cX8_priceOf 34 = .ok (.aload_n 0, 1) := by decide +kernel
theorem dX8_priceOf_35 : decode cX8_priceOf 35 = .ok (.iload_n 1, 1) := by decide +kernel
theorem dX8_priceOf_36 : decode cX8_priceOf 36 = .ok (.iload 5, 2) := by decide +kernel
theorem dX8_priceOf_38 : decode cX8_priceOf 38 = .ok (.iload_n 2, 1) := by decide +kernel
theorem dX8_priceOf_39 : decode cX8_priceOf 39 = .ok (.invokestatic 176, 3) := by decide +kernel
theorem dX8_priceOf_42 : decode cX8_priceOf 42 = .ok (.istore 6, 2) := by decide +kernel
theorem dX8_priceOf_44 : decode cX8_priceOf 44 = .ok (.iload_n 3, 1) := by decide +kernel
theorem dX8_priceOf_45 : decode cX8_priceOf 45 = .ok (.aload_n 0, 1) := by decide +kernel
theorem dX8_priceOf_46 : decode cX8_priceOf 46 = .ok (.iload_n 1, 1) := by decide +kernel
theorem dX8_priceOf_47 : decode cX8_priceOf 47 = .ok (.iload 6, 2) := by decide +kernel
theorem dX8_priceOf_49 : decode cX8_priceOf 49 = .ok (.invokestatic 180, 3) := by decide +kernel
theorem dX8_priceOf_52 : decode cX8_priceOf 52 = .ok (.iadd, 1) := by decide +kernel
theorem dX8_priceOf_53 : decode cX8_priceOf 53 = .ok (.istore_n 3, 1) := by decide +kernel
theorem dX8_priceOf_54 : decode cX8_priceOf 54 = .ok (.iconst 0, 1) := by decide +kernel
theorem dX8_priceOf_55 : decode cX8_priceOf 55 = .ok (.istore 7, 2) := by decide +kernel
theorem dX8_priceOf_57 : decode cX8_priceOf 57 = .ok (.iload 7, 2) := by decide +kernel
theorem dX8_priceOf_59 : decode cX8_priceOf 59 = .ok (.iload 5, 2) := by decide +kernel
theorem dX8_priceOf_61 : decode cX8_priceOf 61 = .ok (.if_icmp .ge 36, 3) := by decide +kernel
theorem dX8_priceOf_64 : decode cX8_priceOf 64 = .ok (.iload_n 3, 1) := by decide +kernel
theorem dX8_priceOf_65 : decode cX8_priceOf 65 = .ok (.aload_n 0, 1) := by decide +kernel
theorem dX8_priceOf_66 : decode cX8_priceOf 66 = .ok (.iload_n 1, 1) := by decide +kernel
theorem dX8_priceOf_67 : decode cX8_priceOf 67 = .ok (.iload 7, 2) := by decide +kernel
theorem dX8_priceOf_69 : decode cX8_priceOf 69 = .ok (.iload_n 2, 1) := by decide +kernel
theorem dX8_priceOf_70 : decode cX8_priceOf 70 = .ok (.invokestatic 176, 3) := by decide +kernel
theorem dX8_priceOf_73 : decode cX8_priceOf 73 = .ok (.invokestatic 157, 3) := by decide +kernel
theorem dX8_priceOf_76 : decode cX8_priceOf 76 = .ok (.iload 6, 2) := by decide +kernel
theorem dX8_priceOf_78 : decode cX8_priceOf 78 = .ok (.invokestatic 157, 3) := by decide +kernel
theorem dX8_priceOf_81 : decode cX8_priceOf 81 = .ok (.if_icmp .ne 7, 3) := by decide +kernel
theorem dX8_priceOf_84 : decode cX8_priceOf 84 = .ok (.iconst 5, 1) := by decide +kernel
theorem dX8_priceOf_85 : decode cX8_priceOf 85 = .ok (.goto 4, 3) := by decide +kernel
theorem dX8_priceOf_88 : decode cX8_priceOf 88 = .ok (.iconst 0, 1) := by decide +kernel
theorem dX8_priceOf_89 : decode cX8_priceOf 89 = .ok (.iadd, 1) := by decide +kernel
theorem dX8_priceOf_90 : decode cX8_priceOf 90 = .ok (.istore_n 3, 1) := by decide +kernel
theorem dX8_priceOf_91 : decode cX8_priceOf 91 = .ok (.iinc 7 1, 3) := by decide +kernel
theorem dX8_priceOf_94 : decode cX8_priceOf 94 = .ok (.goto (-37), 3) := by decide +kernel
theorem dX8_priceOf_97 : decode cX8_priceOf 97 = .ok (.iinc 5 1, 3) := by decide +kernel
theorem dX8_priceOf_100 : decode cX8_priceOf 100 = .ok (.goto (-84), 3) := by decide +kernel
theorem dX8_priceOf_103 : decode cX8_priceOf 103 = .ok (.iload_n 3, 1) := by decide +kernel
theorem dX8_priceOf_104 : decode cX8_priceOf 104 = .ok (.ireturn, 1) := by decide +kernel
theorem dX8_moveTo_0 : decode cX8_moveTo 0 = .ok (.iload_n 2, 1) := by decide +kernel
theorem dX8_moveTo_1 : decode cX8_moveTo 1 = .ok (.iload_n 3, 1) := by decide +kernel
theorem dX8_moveTo_2 : decode cX8_moveTo 2 = .ok (.isub, 1) := by decide +kernel
theorem dX8_moveTo_3 : decode cX8_moveTo 3 = .ok (.invokestatic 173, 3) := by decide +kernel
theorem dX8_moveTo_6 : decode cX8_moveTo 6 = .ok (.istore 4, 2) := by decide +kernel
theorem dX8_moveTo_8 : decode cX8_moveTo 8 = .ok (.aload_n 0, 1) := by decide +kernel
theorem dX8_moveTo_9 : decode cX8_moveTo 9 = .ok (.iload_n 1, 1) := by decide +kernel
theorem dX8_moveTo_10 : decode cX8_moveTo 10 = .ok (.invokestatic 184, 3) := by decide +kernel
theorem dX8_moveTo_13 : decode cX8_moveTo 13 = .ok (.ifCond .eq 13, 3) := by decide +kernel
theorem dX8_moveTo_16 : decode cX8_moveTo 16 = .ok (.iload 4, 2) := by decide +kernel
theorem dX8_moveTo_18 : decode cX8_moveTo 18 = .ok (.ifCond .le 8, 3) := by decide +kernel
theorem dX8_moveTo_21 : decode cX8_moveTo 21 = .ok (.ldc 62, 2) := by decide +kernel
theorem dX8_moveTo_23 : decode cX8_moveTo 23 = .ok (.goto 25, 3) := by decide +kernel
theorem dX8_moveTo_26 : decode cX8_moveTo 26 = .ok (.aload_n 0, 1) := by decide +kernel
theorem dX8_moveTo_27 : decode cX8_moveTo 27 = .ok (.iconst 3, 1) := by decide +kernel
theorem dX8_moveTo_28 : decode cX8_moveTo 28 = .ok (.iconst 5, 1) := by decide +kernel
theorem dX8_moveTo_29 : decode cX8_moveTo 29 = .ok (.iload_n 1, 1) := by decide +kernel
theorem dX8_moveTo_30 : decode cX8_moveTo 30 = .ok (.imul, 1) := by decide +kernel
theorem dX8_moveTo_31 : decode cX8_moveTo 31 = .ok (.iadd, 1) := by decide +kernel
theorem dX8_moveTo_32 : decode cX8_moveTo 32 = .ok (.iconst 4, 1) := by decide +kernel
theorem dX8_moveTo_33 : decode cX8_moveTo 33 = .ok (.iadd, 1) := by decide +kernel
theorem dX8_moveTo_34 : decode cX8_moveTo 34 = .ok (.iaload, 1) := by decide +kernel
theorem dX8_moveTo_35 : decode cX8_moveTo 35 = .ok (.iconst 1, 1) := by decide +kernel
theorem dX8_moveTo_36 : decode cX8_moveTo 36 = .ok (.if_icmp .ne 10, 3) := by decide +kernel
theorem dX8_moveTo_39 : decode cX8_moveTo 39 = .ok (.iload 4, 2) := by decide +kernel
theorem dX8_moveTo_41 : decode cX8_moveTo 41 = .ok (.iconst 2, 1) := by decide +kernel
theorem dX8_moveTo_42 : decode cX8_moveTo 42 = .ok (.idiv, 1) := by decide +kernel
theorem dX8_moveTo_43 : decode cX8_moveTo 43 = .ok (.goto 5, 3) := by decide +kernel
theorem dX8_moveTo_46 : decode cX8_moveTo 46 = .ok (.iload 4, 2) := by decide +kernel
theorem dX8_moveTo_48 : decode cX8_moveTo 48 = .ok (.ireturn, 1) := by decide +kernel
theorem dX8_reckons_0 : decode cX8_reckons 0 = .ok (.aload_n 1, 1) := by decide +kernel
theorem dX8_reckons_1 : decode cX8_reckons 1 = .ok (.iconst 1, 1) := by decide +kernel
theorem dX8_reckons_2 : decode cX8_reckons 2 = .ok (.iaload, 1) := by decide +kernel
theorem dX8_reckons_3 : decode cX8_reckons 3 = .ok (.iconst 1, 1) := by decide +kernel
theorem dX8_reckons_4 : decode cX8_reckons 4 = .ok (.isub, 1) := by decide +kernel
theorem dX8_reckons_5 : decode cX8_reckons 5 = .ok (.istore_n 2, 1) := by decide +kernel
theorem dX8_reckons_6 : decode cX8_reckons 6 = .ok (.iload_n 2, 1) := by decide +kernel
theorem dX8_reckons_7 : decode cX8_reckons 7 = .ok (.ifCond .lt 241, 3) := by decide +kernel
theorem dX8_reckons_10 : decode cX8_reckons 10 = .ok (.iconst 0, 1) := by decide +kernel
theorem dX8_reckons_11 : decode cX8_reckons 11 = .ok (.istore_n 3, 1) := by decide +kernel
theorem dX8_reckons_12 : decode cX8_reckons 12 = .ok (.iload_n 3, 1) := by decide +kernel
theorem dX8_reckons_13 : decode cX8_reckons 13 = .ok (.bipush 24, 2) := by decide +kernel
theorem dX8_reckons_15 : decode cX8_reckons 15 = .ok (.if_icmp .ge 227, 3) := by decide +kernel
theorem dX8_reckons_18 : decode cX8_reckons 18 = .ok (.iload_n 2, 1) := by decide +kernel
theorem dX8_reckons_19 : decode cX8_reckons 19 = .ok (.iconst 1, 1) := by decide +kernel
theorem dX8_reckons_20 : decode cX8_reckons 20 = .ok (.iadd, 1) := by decide +kernel
theorem dX8_reckons_21 : decode cX8_reckons 21 = .ok (.aload_n 1, 1) := by decide +kernel
theorem dX8_reckons_22 : decode cX8_reckons 22 = .ok (.iconst 1, 1) := by decide +kernel
theorem dX8_reckons_23 : decode cX8_reckons 23 = .ok (.iaload, 1) := by decide +kernel
theorem dX8_reckons_24 : decode cX8_reckons 24 = .ok (.if_icmp .ne 7, 3) := by decide +kernel
theorem dX8_reckons_27 : decode cX8_reckons 27 = .ok (.iconst 0, 1) := by decide +kernel
theorem dX8_reckons_28 : decode cX8_reckons 28 = .ok (.goto 5, 3) := by decide +kernel
theorem dX8_reckons_31 : decode cX8_reckons 31 = .ok (.ldc 62, 2) := by decide +kernel
theorem dX8_reckons_33 : decode cX8_reckons 33 = .ok (.istore 4, 2) := by decide +kernel
theorem dX8_reckons_35 : decode cX8_reckons 35 = .ok (.iload_n 2, 1) := by decide +kernel
theorem dX8_reckons_36 : decode cX8_reckons 36 = .ok (.iconst 1, 1) := by decide +kernel
theorem dX8_reckons_37 : decode cX8_reckons 37 = .ok (.iadd, 1) := by decide +kernel
theorem dX8_reckons_38 : decode cX8_reckons 38 = .ok (.aload_n 1, 1) := by decide +kernel
theorem dX8_reckons_39 : decode cX8_reckons 39 = .ok (.iconst 1, 1) := by decide +kernel
theorem dX8_reckons_40 : decode cX8_reckons 40 = .ok (.iaload, 1) := by decide +kernel
theorem dX8_reckons_41 : decode cX8_reckons 41 = .ok (.if_icmp .ne 7, 3) := by decide +kernel
theorem dX8_reckons_44 : decode cX8_reckons 44 = .ok (.iconst 1, 1) := by decide +kernel
theorem dX8_reckons_45 : decode cX8_reckons 45 = .ok (.goto 4, 3) := by decide +kernel
theorem dX8_reckons_48 : decode cX8_reckons 48 = .ok (.iconst 0, 1) := by decide +kernel
theorem dX8_reckons_49 : decode cX8_reckons 49 = .ok (.istore 5, 2) := by decide +kernel
theorem dX8_reckons_51 : decode cX8_reckons 51 = .ok (.iconst 0, 1) := by decide +kernel
theorem dX8_reckons_52 : decode cX8_reckons 52 = .ok (.istore 6, 2) := by decide +kernel
theorem dX8_reckons_54 : decode cX8_reckons 54 = .ok (.iload 6, 2) := by decide +kernel
theorem dX8_reckons_56 : decode cX8_reckons 56 = .ok (.bipush 24, 2) := by decide +kernel
theorem dX8_reckons_58 : decode cX8_reckons 58 = .ok (.if_icmp .ge 142, 3) := by decide +kernel
theorem dX8_reckons_61 : decode cX8_reckons 61 = .ok (.iload_n 2, 1) := by decide +kernel
theorem dX8_reckons_62 : decode cX8_reckons 62 = .ok (.iconst 1, 1) := by decide +kernel
theorem dX8_reckons_63 : decode cX8_reckons 63 = .ok (.iadd, 1) := by decide +kernel
theorem dX8_reckons_64 : decode cX8_reckons 64 = .ok (.aload_n 1, 1) := by decide +kernel
theorem dX8_reckons_65 : decode cX8_reckons 65 = .ok (.iconst 1, 1) := by decide +kernel
theorem dX8_reckons_66 : decode cX8_reckons 66 = .ok (.iaload, 1) := by decide +kernel
theorem dX8_reckons_67 : decode cX8_reckons 67 = .ok (.if_icmp .ge 133, 3) := by decide +kernel
theorem dX8_reckons_70 : decode cX8_reckons 70 = .ok (.aload_n 1, 1) := by decide +kernel
theorem dX8_reckons_71 : decode cX8_reckons 71 = .ok (.iload_n 2, 1) := by decide +kernel
theorem dX8_reckons_72 : decode cX8_reckons 72 = .ok (.iconst 1, 1) := by decide +kernel
theorem dX8_reckons_73 : decode cX8_reckons 73 = .ok (.iadd, 1) := by decide +kernel
theorem dX8_reckons_74 : decode cX8_reckons 74 = .ok (.iload_n 3, 1) := by decide +kernel
theorem dX8_reckons_75 : decode cX8_reckons 75 = .ok (.iload 6, 2) := by decide +kernel
theorem dX8_reckons_77 : decode cX8_reckons 77 = .ok (.invokestatic 188, 3) := by decide +kernel
theorem dX8_reckons_80 : decode cX8_reckons 80 = .ok (.istore 7, 2) := by decide +kernel
theorem dX8_reckons_82 : decode cX8_reckons 82 = .ok (.iload 7, 2) := by decide +kernel
theorem dX8_reckons_84 : decode cX8_reckons 84 = .ok (.ldc 62, 2) := by decide +kernel
theorem dX8_reckons_86 : decode cX8_reckons 86 = .ok (.if_icmp .ne 8, 3) := by decide +kernel
theorem dX8_reckons_89 : decode cX8_reckons 89 = .ok (.ldc 62, 2) := by decide +kernel
theorem dX8_reckons_91 : decode cX8_reckons 91 = .ok (.goto 20, 3) := by decide +kernel
theorem dX8_reckons_94 : decode cX8_reckons 94 = .ok (.iload 7, 2) := by decide +kernel
theorem dX8_reckons_96 : decode cX8_reckons 96 = .ok (.aload_n 0, 1) := by decide +kernel
theorem dX8_reckons_97 : decode cX8_reckons 97 = .ok (.getfield 44, 3) := by decide +kernel
theorem dX8_reckons_100 : decode cX8_reckons 100 = .ok (.bipush 24, 2) := by decide +kernel
theorem dX8_reckons_102 : decode cX8_reckons 102 = .ok (.iload_n 2, 1) := by decide +kernel
theorem dX8_reckons_103 : decode cX8_reckons 103 = .ok (.iconst 1, 1) := by decide +kernel
theorem dX8_reckons_104 : decode cX8_reckons 104 = .ok (.iadd, 1) := by decide +kernel
theorem dX8_reckons_105 : decode cX8_reckons 105 = .ok (.imul, 1) := by decide +kernel
theorem dX8_reckons_106 : decode cX8_reckons 106 = .ok (.iload 6, 2) := by decide +kernel
theorem dX8_reckons_108 : decode cX8_reckons 108 = .ok (.iadd, 1) := by decide +kernel
theorem dX8_reckons_109 : decode cX8_reckons 109 = .ok (.iaload, 1) := by decide +kernel
theorem dX8_reckons_110 : decode cX8_reckons 110 = .ok (.iadd, 1) := by decide +kernel
theorem dX8_reckons_111 : decode cX8_reckons 111 = .ok (.istore 8, 2) := by decide +kernel
theorem dX8_reckons_113 : decode cX8_reckons 113 = .ok (.iload 8, 2) := by decide +kernel
theorem dX8_reckons_115 : decode cX8_reckons 115 = .ok (.ldc 62, 2) := by decide +kernel
theorem dX8_reckons_117 : decode cX8_reckons 117 = .ok (.if_icmp .eq 24, 3) := by decide +kernel
theorem dX8_reckons_120 : decode cX8_reckons 120 = .ok (.iload 4, 2) := by decide +kernel
theorem dX8_reckons_122 : decode cX8_reckons 122 = .ok (.ldc 62, 2) := by decide +kernel
theorem dX8_reckons_124 : decode cX8_reckons 124 = .ok (.if_icmp .eq 10, 3) := by decide +kernel
theorem dX8_reckons_127 : decode cX8_reckons 127 = .ok (.iload 8, 2) := by decide +kernel
theorem dX8_reckons_129 : decode cX8_reckons 129 = .ok (.iload 4, 2) := by decide +kernel
theorem dX8_reckons_131 : decode cX8_reckons 131 = .ok (.if_icmp .ge 10, 3) := by decide +kernel
theorem dX8_reckons_134 : decode cX8_reckons 134 = .ok (.iload 8, 2) := by decide +kernel
theorem dX8_reckons_136 : decode cX8_reckons 136 = .ok (.istore 4, 2) := by decide +kernel
theorem dX8_reckons_138 : decode cX8_reckons 138 = .ok (.iconst 0, 1) := by decide +kernel
theorem dX8_reckons_139 : decode cX8_reckons 139 = .ok (.istore 5, 2) := by decide +kernel
theorem dX8_reckons_141 : decode cX8_reckons 141 = .ok (.iload 5, 2) := by decide +kernel
theorem dX8_reckons_143 : decode cX8_reckons 143 = .ok (.iload 8, 2) := by decide +kernel
theorem dX8_reckons_145 : decode cX8_reckons 145 = .ok (.ldc 62, 2) := by decide +kernel
theorem dX8_reckons_147 : decode cX8_reckons 147 = .ok (.if_icmp .eq 27, 3) := by decide +kernel
theorem dX8_reckons_150 : decode cX8_reckons 150 = .ok (.iload 8, 2) := by decide +kernel
theorem dX8_reckons_152 : decode cX8_reckons 152 = .ok (.iload 4, 2) := by decide +kernel
theorem dX8_reckons_154 : decode cX8_reckons 154 = .ok (.if_icmp .ne 20, 3) := by decide +kernel
theorem dX8_reckons_157 : decode cX8_reckons 157 = .ok (.aload_n 0, 1) := by decide +kernel
theorem dX8_reckons_158 : decode cX8_reckons 158 = .ok (.getfield 47, 3) := by decide +kernel
theorem dX8_reckons_161 : decode cX8_reckons 161 = .ok (.bipush 24, 2) := by decide +kernel
theorem dX8_reckons_163 : decode cX8_reckons 163 = .ok (.iload_n 2, 1) := by decide +kernel
theorem dX8_reckons_164 : decode cX8_reckons 164 = .ok (.iconst 1, 1) := by decide +kernel
theorem dX8_reckons_165 : decode cX8_reckons 165 = .ok (.iadd, 1) := by decide +kernel
theorem dX8_reckons_166 : decode cX8_reckons 166 = .ok (.imul, 1) := by decide +kernel
theorem dX8_reckons_167 : decode cX8_reckons 167 = .ok (.iload 6, 2) := by decide +kernel
theorem dX8_reckons_169 : decode cX8_reckons 169 = .ok (.iadd, 1) := by decide +kernel
theorem dX8_reckons_170 : decode cX8_reckons 170 = .ok (.iaload, 1) := by decide +kernel
theorem dX8_reckons_171 : decode cX8_reckons 171 = .ok (.goto 4, 3) := by decide +kernel
theorem dX8_reckons_174 : decode cX8_reckons 174 = .ok (.iconst 0, 1) := by decide +kernel
theorem dX8_reckons_175 : decode cX8_reckons 175 = .ok (.iadd, 1) := by decide +kernel
theorem dX8_reckons_176 : decode cX8_reckons 176 = .ok (.istore 5, 2) := by decide +kernel
theorem dX8_reckons_178 : decode cX8_reckons 178 = .ok (.iload 5, 2) := by decide +kernel
theorem dX8_reckons_180 : decode cX8_reckons 180 = .ok (.ldc 191, 2) := by decide +kernel
theorem dX8_reckons_182 : decode cX8_reckons 182 = .ok (.if_icmp .le 8, 3) := by decide +kernel
theorem dX8_reckons_185 : decode cX8_reckons 185 = .ok (.ldc 191, 2) := by decide +kernel
theorem dX8_reckons_187 : decode cX8_reckons 187 = .ok (.goto 5, 3) := by decide +kernel
theorem dX8_reckons_190 : decode cX8_reckons 190 = .ok (.iload 5, 2) := by decide +kernel
theorem dX8_reckons_192 : decode cX8_reckons 192 = .ok (.istore 5, 2) := by decide +kernel
theorem dX8_reckons_194 : decode cX8_reckons 194 = .ok (.iinc 6 1, 3) := by decide +kernel
theorem dX8_reckons_197 : decode cX8_reckons 197 = .ok (.goto (-143), 3) := by decide +kernel
theorem dX8_reckons_200 : decode cX8_reckons 200 = .ok (.aload_n 0, 1) := by decide +kernel
theorem dX8_reckons_201 : decode cX8_reckons 201 = .ok (.getfield 44, 3) := by decide +kernel
theorem dX8_reckons_204 : decode cX8_reckons 204 = .ok (.bipush 24, 2) := by decide +kernel
theorem dX8_reckons_206 : decode cX8_reckons 206 = .ok (.iload_n 2, 1) := by decide +kernel
theorem dX8_reckons_207 : decode cX8_reckons 207 = .ok (.imul, 1) := by decide +kernel
theorem dX8_reckons_208 : decode cX8_reckons 208 = .ok (.iload_n 3, 1) := by decide +kernel
theorem dX8_reckons_209 : decode cX8_reckons 209 = .ok (.iadd, 1) := by decide +kernel
theorem dX8_reckons_210 : decode cX8_reckons 210 = .ok (.iload 4, 2) := by decide +kernel
theorem dX8_reckons_212 : decode cX8_reckons 212 = .ok (.aload_n 1, 1) := by decide +kernel
theorem dX8_reckons_213 : decode cX8_reckons 213 = .ok (.iload_n 2, 1) := by decide +kernel
theorem dX8_reckons_214 : decode cX8_reckons 214 = .ok (.bipush (-15), 2) := by decide +kernel
theorem dX8_reckons_216 : decode cX8_reckons 216 = .ok (.iload_n 3, 1) := by decide +kernel
theorem dX8_reckons_217 : decode cX8_reckons 217 = .ok (.iadd, 1) := by decide +kernel
theorem dX8_reckons_218 : decode cX8_reckons 218 = .ok (.invokestatic 192, 3) := by decide +kernel
theorem dX8_reckons_221 : decode cX8_reckons 221 = .ok (.iadd, 1) := by decide +kernel
theorem dX8_reckons_222 : decode cX8_reckons 222 = .ok (.iastore, 1) := by decide +kernel
theorem dX8_reckons_223 : decode cX8_reckons 223 = .ok (.aload_n 0, 1) := by decide +kernel
theorem dX8_reckons_224 : decode cX8_reckons 224 = .ok (.getfield 47, 3) := by decide +kernel
theorem dX8_reckons_227 : decode cX8_reckons 227 = .ok (.bipush 24, 2) := by decide +kernel
theorem dX8_reckons_229 : decode cX8_reckons 229 = .ok (.iload_n 2, 1) := by decide +kernel
theorem dX8_reckons_230 : decode cX8_reckons 230 = .ok (.imul, 1) := by decide +kernel
theorem dX8_reckons_231 : decode cX8_reckons 231 = .ok (.iload_n 3, 1) := by decide +kernel
theorem dX8_reckons_232 : decode cX8_reckons 232 = .ok (.iadd, 1) := by decide +kernel
theorem dX8_reckons_233 : decode cX8_reckons 233 = .ok (.iload 5, 2) := by decide +kernel
theorem dX8_reckons_235 : decode cX8_reckons 235 = .ok (.iastore, 1) := by decide +kernel
theorem dX8_reckons_236 : decode cX8_reckons 236 = .ok (.iinc 3 1, 3) := by decide +kernel
theorem dX8_reckons_239 : decode cX8_reckons 239 = .ok (.goto (-227), 3) := by decide +kernel
theorem dX8_reckons_242 : decode cX8_reckons 242 = .ok (.iinc 2 (-1), 3) := by decide +kernel
theorem dX8_reckons_245 : decode cX8_reckons 245 = .ok (.goto (-239), 3) := by decide +kernel
theorem dX8_reckons_248 : decode cX8_reckons 248 = .ok (.return_, 1) := by decide +kernel
theorem dX8_finds_0 : decode cX8_finds 0 = .ok (.aload_n 0, 1) := by decide +kernel
theorem dX8_finds_1 : decode cX8_finds 1 = .ok (.aload_n 1, 1) := by decide +kernel
theorem dX8_finds_2 : decode cX8_finds 2 = .ok (.invokevirtual 195, 3) := by decide +kernel
theorem dX8_finds_5 : decode cX8_finds 5 = .ok (.aload_n 0, 1) := by decide +kernel
theorem dX8_finds_6 : decode cX8_finds 6 = .ok (.ldc 62, 2) := by decide +kernel
theorem dX8_finds_8 : decode cX8_finds 8 = .ok (.putfield 199, 3) := by decide +kernel
theorem dX8_finds_11 : decode cX8_finds 11 = .ok (.iconst 0, 1) := by decide +kernel
theorem dX8_finds_12 : decode cX8_finds 12 = .ok (.istore_n 2, 1) := by decide +kernel
theorem dX8_finds_13 : decode cX8_finds 13 = .ok (.iload_n 2, 1) := by decide +kernel
theorem dX8_finds_14 : decode cX8_finds 14 = .ok (.bipush 24, 2) := by decide +kernel
theorem dX8_finds_16 : decode cX8_finds 16 = .ok (.if_icmp .ge 48, 3) := by decide +kernel
theorem dX8_finds_19 : decode cX8_finds 19 = .ok (.aload_n 0, 1) := by decide +kernel
theorem dX8_finds_20 : decode cX8_finds 20 = .ok (.getfield 199, 3) := by decide +kernel
theorem dX8_finds_23 : decode cX8_finds 23 = .ok (.ldc 62, 2) := by decide +kernel
theorem dX8_finds_25 : decode cX8_finds 25 = .ok (.if_icmp .eq 16, 3) := by decide +kernel
theorem dX8_finds_28 : decode cX8_finds 28 = .ok (.aload_n 0, 1) := by decide +kernel
theorem dX8_finds_29 : decode cX8_finds 29 = .ok (.getfield 44, 3) := by decide +kernel
theorem dX8_finds_32 : decode cX8_finds 32 = .ok (.iload_n 2, 1) := by decide +kernel
theorem dX8_finds_33 : decode cX8_finds 33 = .ok (.iaload, 1) := by decide +kernel
theorem dX8_finds_34 : decode cX8_finds 34 = .ok (.aload_n 0, 1) := by decide +kernel
theorem dX8_finds_35 : decode cX8_finds 35 = .ok (.getfield 199, 3) := by decide +kernel
theorem dX8_finds_38 : decode cX8_finds 38 = .ok (.if_icmp .ge 20, 3) := by decide +kernel
theorem dX8_finds_41 : decode cX8_finds 41 = .ok (.aload_n 0, 1) := by decide +kernel
theorem dX8_finds_42 : decode cX8_finds 42 = .ok (.aload_n 0, 1) := by decide +kernel
theorem dX8_finds_43 : decode cX8_finds 43 = .ok (.getfield 44, 3) := by decide +kernel
theorem dX8_finds_46 : decode cX8_finds 46 = .ok (.iload_n 2, 1) := by decide +kernel
theorem dX8_finds_47 : decode cX8_finds 47 = .ok (.iaload, 1) := by decide +kernel
theorem dX8_finds_48 : decode cX8_finds 48 = .ok (.putfield 199, 3) := by decide +kernel
theorem dX8_finds_51 : decode cX8_finds 51 = .ok (.aload_n 0, 1) := by decide +kernel
theorem dX8_finds_52 : decode cX8_finds 52 = .ok (.getfield 50, 3) := by decide +kernel
theorem dX8_finds_55 : decode cX8_finds 55 = .ok (.iconst 0, 1) := by decide +kernel
theorem dX8_finds_56 : decode cX8_finds 56 = .ok (.iload_n 2, 1) := by decide +kernel
theorem dX8_finds_57 : decode cX8_finds 57 = .ok (.iastore, 1) := by decide +kernel
theorem dX8_finds_58 : decode cX8_finds 58 = .ok (.iinc 2 1, 3) := by decide +kernel
theorem dX8_finds_61 : decode cX8_finds 61 = .ok (.goto (-48), 3) := by decide +kernel
theorem dX8_finds_64 : decode cX8_finds 64 = .ok (.iconst 1, 1) := by decide +kernel
theorem dX8_finds_65 : decode cX8_finds 65 = .ok (.istore_n 2, 1) := by decide +kernel
theorem dX8_finds_66 : decode cX8_finds 66 = .ok (.iload_n 2, 1) := by decide +kernel
theorem dX8_finds_67 : decode cX8_finds 67 = .ok (.aload_n 1, 1) := by decide +kernel
theorem dX8_finds_68 : decode cX8_finds 68 = .ok (.iconst 1, 1) := by decide +kernel
theorem dX8_finds_69 : decode cX8_finds 69 = .ok (.iaload, 1) := by decide +kernel
theorem dX8_finds_70 : decode cX8_finds 70 = .ok (.if_icmp .ge 101, 3) := by decide +kernel
theorem dX8_finds_73 : decode cX8_finds 73 = .ok (.aload_n 0, 1) := by decide +kernel
theorem dX8_finds_74 : decode cX8_finds 74 = .ok (.getfield 50, 3) := by decide +kernel
theorem dX8_finds_77 : decode cX8_finds 77 = .ok (.iload_n 2, 1) := by decide +kernel
theorem dX8_finds_78 : decode cX8_finds 78 = .ok (.iconst 1, 1) := by decide +kernel
theorem dX8_finds_79 : decode cX8_finds 79 = .ok (.isub, 1) := by decide +kernel
theorem dX8_finds_80 : decode cX8_finds 80 = .ok (.iaload, 1) := by decide +kernel
theorem dX8_finds_81 : decode cX8_finds 81 = .ok (.istore_n 3, 1) := by decide +kernel
theorem dX8_finds_82 : decode cX8_finds 82 = .ok (.aload_n 0, 1) := by decide +kernel
theorem dX8_finds_83 : decode cX8_finds 83 = .ok (.getfield 44, 3) := by decide +kernel
theorem dX8_finds_86 : decode cX8_finds 86 = .ok (.bipush 24, 2) := by decide +kernel
theorem dX8_finds_88 : decode cX8_finds 88 = .ok (.iload_n 2, 1) := by decide +kernel
theorem dX8_finds_89 : decode cX8_finds 89 = .ok (.iconst 1, 1) := by decide +kernel
theorem dX8_finds_90 : decode cX8_finds 90 = .ok (.isub, 1) := by decide +kernel
theorem dX8_finds_91 : decode cX8_finds 91 = .ok (.imul, 1) := by decide +kernel
theorem dX8_finds_92 : decode cX8_finds 92 = .ok (.iload_n 3, 1) := by decide +kernel
theorem dX8_finds_93 : decode cX8_finds 93 = .ok (.iadd, 1) := by decide +kernel
theorem dX8_finds_94 : decode cX8_finds 94 = .ok (.iaload, 1) := by decide +kernel
theorem dX8_finds_95 : decode cX8_finds 95 = .ok (.aload_n 1, 1) := by decide +kernel
theorem dX8_finds_96 : decode cX8_finds 96 = .ok (.iload_n 2, 1) := by decide +kernel
theorem dX8_finds_97 : decode cX8_finds 97 = .ok (.iconst 1, 1) := by decide +kernel
theorem dX8_finds_98 : decode cX8_finds 98 = .ok (.isub, 1) := by decide +kernel
theorem dX8_finds_99 : decode cX8_finds 99 = .ok (.bipush (-15), 2) := by decide +kernel
theorem dX8_finds_101 : decode cX8_finds 101 = .ok (.iload_n 3, 1) := by decide +kernel
theorem dX8_finds_102 : decode cX8_finds 102 = .ok (.iadd, 1) := by decide +kernel
theorem dX8_finds_103 : decode cX8_finds 103 = .ok (.invokestatic 192, 3) := by decide +kernel
theorem dX8_finds_106 : decode cX8_finds 106 = .ok (.isub, 1) := by decide +kernel
theorem dX8_finds_107 : decode cX8_finds 107 = .ok (.istore 4, 2) := by decide +kernel
theorem dX8_finds_109 : decode cX8_finds 109 = .ok (.iconst 0, 1) := by decide +kernel
theorem dX8_finds_110 : decode cX8_finds 110 = .ok (.istore 5, 2) := by decide +kernel
theorem dX8_finds_112 : decode cX8_finds 112 = .ok (.aload_n 1, 1) := by decide +kernel
theorem dX8_finds_113 : decode cX8_finds 113 = .ok (.iload_n 2, 1) := by decide +kernel
theorem dX8_finds_114 : decode cX8_finds 114 = .ok (.iload_n 3, 1) := by decide +kernel
theorem dX8_finds_115 : decode cX8_finds 115 = .ok (.iload 5, 2) := by decide +kernel
theorem dX8_finds_117 : decode cX8_finds 117 = .ok (.invokestatic 188, 3) := by decide +kernel
theorem dX8_finds_120 : decode cX8_finds 120 = .ok (.ldc 62, 2) := by decide +kernel
theorem dX8_finds_122 : decode cX8_finds 122 = .ok (.if_icmp .eq 29, 3) := by decide +kernel
theorem dX8_finds_125 : decode cX8_finds 125 = .ok (.aload_n 1, 1) := by decide +kernel
theorem dX8_finds_126 : decode cX8_finds 126 = .ok (.iload_n 2, 1) := by decide +kernel
theorem dX8_finds_127 : decode cX8_finds 127 = .ok (.iload_n 3, 1) := by decide +kernel
theorem dX8_finds_128 : decode cX8_finds 128 = .ok (.iload 5, 2) := by decide +kernel
theorem dX8_finds_130 : decode cX8_finds 130 = .ok (.invokestatic 188, 3) := by decide +kernel
theorem dX8_finds_133 : decode cX8_finds 133 = .ok (.aload_n 0, 1) := by decide +kernel
theorem dX8_finds_134 : decode cX8_finds 134 = .ok (.getfield 44, 3) := by decide +kernel
theorem dX8_finds_137 : decode cX8_finds 137 = .ok (.bipush 24, 2) := by decide +kernel
theorem dX8_finds_139 : decode cX8_finds 139 = .ok (.iload_n 2, 1) := by decide +kernel
theorem dX8_finds_140 : decode cX8_finds 140 = .ok (.imul, 1) := by decide +kernel
theorem dX8_finds_141 : decode cX8_finds 141 = .ok (.iload 5, 2) := by decide +kernel
theorem dX8_finds_143 : decode cX8_finds 143 = .ok (.iadd, 1) := by decide +kernel
theorem dX8_finds_144 : decode cX8_finds 144 = .ok (.iaload, 1) := by decide +kernel
theorem dX8_finds_145 : decode cX8_finds 145 = .ok (.iadd, 1) := by decide +kernel
theorem dX8_finds_146 : decode cX8_finds 146 = .ok (.iload 4, 2) := by decide +kernel
theorem dX8_finds_148 : decode cX8_finds 148 = .ok (.if_icmp .eq 9, 3) := by decide +kernel
theorem dX8_finds_151 : decode cX8_finds 151 = .ok (.iinc 5 1, 3) := by decide +kernel
theorem dX8_finds_154 : decode cX8_finds 154 = .ok (.goto (-42), 3) := by decide +kernel
theorem dX8_finds_157 : decode cX8_finds 157 = .ok (.aload_n 0, 1) := by decide +kernel
theorem dX8_finds_158 : decode cX8_finds 158 = .ok (.getfield 50, 3) := by decide +kernel
theorem dX8_finds_161 : decode cX8_finds 161 = .ok (.iload_n 2, 1) := by decide +kernel
theorem dX8_finds_162 : decode cX8_finds 162 = .ok (.iload 5, 2) := by decide +kernel
theorem dX8_finds_164 : decode cX8_finds 164 = .ok (.iastore, 1) := by decide +kernel
theorem dX8_finds_165 : decode cX8_finds 165 = .ok (.iinc 2 1, 3) := by decide +kernel
theorem dX8_finds_168 : decode cX8_finds 168 = .ok (.goto (-102), 3) := by decide +kernel
theorem dX8_finds_171 : decode cX8_finds 171 = .ok (.return_, 1) := by decide +kernel
theorem dX8_allWays_0 : decode cX8_allWays 0 = .ok (.aload_n 0, 1) := by decide +kernel
theorem dX8_allWays_1 : decode cX8_allWays 1 = .ok (.aload_n 0, 1) := by decide +kernel
theorem dX8_allWays_2 : decode cX8_allWays 2 = .ok (.getfield 25, 3) := by decide +kernel
theorem dX8_allWays_5 : decode cX8_allWays 5 = .ok (.invokevirtual 202, 3) := by decide +kernel
theorem dX8_allWays_8 : decode cX8_allWays 8 = .ok (.iconst 0, 1) := by decide +kernel
theorem dX8_allWays_9 : decode cX8_allWays 9 = .ok (.istore_n 1, 1) := by decide +kernel
theorem dX8_allWays_10 : decode cX8_allWays 10 = .ok (.iconst 0, 1) := by decide +kernel
theorem dX8_allWays_11 : decode cX8_allWays 11 = .ok (.istore_n 2, 1) := by decide +kernel
theorem dX8_allWays_12 : decode cX8_allWays 12 = .ok (.iload_n 2, 1) := by decide +kernel
theorem dX8_allWays_13 : decode cX8_allWays 13 = .ok (.bipush 24, 2) := by decide +kernel
theorem dX8_allWays_15 : decode cX8_allWays 15 = .ok (.if_icmp .ge 48, 3) := by decide +kernel
theorem dX8_allWays_18 : decode cX8_allWays 18 = .ok (.iload_n 1, 1) := by decide +kernel
theorem dX8_allWays_19 : decode cX8_allWays 19 = .ok (.aload_n 0, 1) := by decide +kernel
theorem dX8_allWays_20 : decode cX8_allWays 20 = .ok (.getfield 44, 3) := by decide +kernel
theorem dX8_allWays_23 : decode cX8_allWays 23 = .ok (.iload_n 2, 1) := by decide +kernel
theorem dX8_allWays_24 : decode cX8_allWays 24 = .ok (.iaload, 1) := by decide +kernel
theorem dX8_allWays_25 : decode cX8_allWays 25 = .ok (.aload_n 0, 1) := by decide +kernel
theorem dX8_allWays_26 : decode cX8_allWays 26 = .ok (.getfield 199, 3) := by decide +kernel
theorem dX8_allWays_29 : decode cX8_allWays 29 = .ok (.if_icmp .ne 12, 3) := by decide +kernel
theorem dX8_allWays_32 : decode cX8_allWays 32 = .ok (.aload_n 0, 1) := by decide +kernel
theorem dX8_allWays_33 : decode cX8_allWays 33 = .ok (.getfield 47, 3) := by decide +kernel
theorem dX8_allWays_36 : decode cX8_allWays 36 = .ok (.iload_n 2, 1) := by decide +kernel
theorem dX8_allWays_37 : decode cX8_allWays 37 = .ok (.iaload, 1) := by decide +kernel
theorem dX8_allWays_38 : decode cX8_allWays 38 = .ok (.goto 4, 3) := by decide +kernel
theorem dX8_allWays_41 : decode cX8_allWays 41 = .ok (.iconst 0, 1) := by decide +kernel
theorem dX8_allWays_42 : decode cX8_allWays 42 = .ok (.iadd, 1) := by decide +kernel
theorem dX8_allWays_43 : decode cX8_allWays 43 = .ok (.istore_n 1, 1) := by decide +kernel
theorem dX8_allWays_44 : decode cX8_allWays 44 = .ok (.iload_n 1, 1) := by decide +kernel
theorem dX8_allWays_45 : decode cX8_allWays 45 = .ok (.ldc 191, 2) := by decide +kernel
theorem dX8_allWays_47 : decode cX8_allWays 47 = .ok (.if_icmp .le 8, 3) := by decide +kernel
theorem dX8_allWays_50 : decode cX8_allWays 50 = .ok (.ldc 191, 2) := by decide +kernel
theorem dX8_allWays_52 : decode cX8_allWays 52 = .ok (.goto 4, 3) := by decide +kernel
theorem dX8_allWays_55 : decode cX8_allWays 55 = .ok (.iload_n 1, 1) := by decide +kernel
theorem dX8_allWays_56 : decode cX8_allWays 56 = .ok (.istore_n 1, 1) := by decide +kernel
theorem dX8_allWays_57 : decode cX8_allWays 57 = .ok (.iinc 2 1, 3) := by decide +kernel
theorem dX8_allWays_60 : decode cX8_allWays 60 = .ok (.goto (-48), 3) := by decide +kernel
theorem dX8_allWays_63 : decode cX8_allWays 63 = .ok (.iload_n 1, 1) := by decide +kernel
theorem dX8_allWays_64 : decode cX8_allWays 64 = .ok (.ireturn, 1) := by decide +kernel
theorem dX8_windowOf_0 : decode cX8_windowOf 0 = .ok (.aload_n 0, 1) := by decide +kernel
theorem dX8_windowOf_1 : decode cX8_windowOf 1 = .ok (.aload_n 0, 1) := by decide +kernel
theorem dX8_windowOf_2 : decode cX8_windowOf 2 = .ok (.getfield 25, 3) := by decide +kernel
theorem dX8_windowOf_5 : decode cX8_windowOf 5 = .ok (.invokevirtual 202, 3) := by decide +kernel
theorem dX8_windowOf_8 : decode cX8_windowOf 8 = .ok (.bipush (-15), 2) := by decide +kernel
theorem dX8_windowOf_10 : decode cX8_windowOf 10 = .ok (.aload_n 0, 1) := by decide +kernel
theorem dX8_windowOf_11 : decode cX8_windowOf 11 = .ok (.getfield 50, 3) := by decide +kernel
theorem dX8_windowOf_14 : decode cX8_windowOf 14 = .ok (.iload_n 1, 1) := by decide +kernel
theorem dX8_windowOf_15 : decode cX8_windowOf 15 = .ok (.iaload, 1) := by decide +kernel
theorem dX8_windowOf_16 : decode cX8_windowOf 16 = .ok (.iadd, 1) := by decide +kernel
theorem dX8_windowOf_17 : decode cX8_windowOf 17 = .ok (.ireturn, 1) := by decide +kernel
theorem dX8_prints_0 : decode cX8_prints 0 = .ok (.aload_n 0, 1) := by decide +kernel
theorem dX8_prints_1 : decode cX8_prints 1 = .ok (.aload_n 1, 1) := by decide +kernel
theorem dX8_prints_2 : decode cX8_prints 2 = .ok (.invokevirtual 202, 3) := by decide +kernel
theorem dX8_prints_5 : decode cX8_prints 5 = .ok (.iconst 0, 1) := by decide +kernel
theorem dX8_prints_6 : decode cX8_prints 6 = .ok (.istore_n 2, 1) := by decide +kernel
theorem dX8_prints_7 : decode cX8_prints 7 = .ok (.iconst 0, 1) := by decide +kernel
theorem dX8_prints_8 : decode cX8_prints 8 = .ok (.istore_n 3, 1) := by decide +kernel
theorem dX8_prints_9 : decode cX8_prints 9 = .ok (.iload_n 3, 1) := by decide +kernel
theorem dX8_prints_10 : decode cX8_prints 10 = .ok (.aload_n 1, 1) := by decide +kernel
theorem dX8_prints_11 : decode cX8_prints 11 = .ok (.iconst 1, 1) := by decide +kernel
theorem dX8_prints_12 : decode cX8_prints 12 = .ok (.iaload, 1) := by decide +kernel
theorem dX8_prints_13 : decode cX8_prints 13 = .ok (.if_icmp .ge 175, 3) := by decide +kernel
theorem dX8_prints_16 : decode cX8_prints 16 = .ok (.iconst 3, 1) := by decide +kernel
theorem dX8_prints_17 : decode cX8_prints 17 = .ok (.iconst 5, 1) := by decide +kernel
theorem dX8_prints_18 : decode cX8_prints 18 = .ok (.iload_n 3, 1) := by decide +kernel
theorem dX8_prints_19 : decode cX8_prints 19 = .ok (.imul, 1) := by decide +kernel
theorem dX8_prints_20 : decode cX8_prints 20 = .ok (.iadd, 1) := by decide +kernel
theorem dX8_prints_21 : decode cX8_prints 21 = .ok (.istore 4, 2) := by decide +kernel
theorem dX8_prints_23 : decode cX8_prints 23 = .ok (.iconst 0, 1) := by decide +kernel
theorem dX8_prints_24 : decode cX8_prints 24 = .ok (.istore 5, 2) := by decide +kernel
theorem dX8_prints_26 : decode cX8_prints 26 = .ok (.iload 5, 2) := by decide +kernel
theorem dX8_prints_28 : decode cX8_prints 28 = .ok (.bipush 7, 2) := by decide +kernel
theorem dX8_prints_30 : decode cX8_prints 30 = .ok (.if_icmp .ge 32, 3) := by decide +kernel
theorem dX8_prints_33 : decode cX8_prints 33 = .ok (.aload_n 1, 1) := by decide +kernel
theorem dX8_prints_34 : decode cX8_prints 34 = .ok (.iload 4, 2) := by decide +kernel
theorem dX8_prints_36 : decode cX8_prints 36 = .ok (.iconst 3, 1) := by decide +kernel
theorem dX8_prints_37 : decode cX8_prints 37 = .ok (.iadd, 1) := by decide +kernel
theorem dX8_prints_38 : decode cX8_prints 38 = .ok (.iaload, 1) := by decide +kernel
theorem dX8_prints_39 : decode cX8_prints 39 = .ok (.iconst 1, 1) := by decide +kernel
theorem dX8_prints_40 : decode cX8_prints 40 = .ok (.if_icmp .ne 22, 3) := by decide +kernel
theorem dX8_prints_43 : decode cX8_prints 43 = .ok (.aload_n 0, 1) := by decide +kernel
theorem dX8_prints_44 : decode cX8_prints 44 = .ok (.getfield 53, 3) := by decide +kernel
theorem dX8_prints_47 : decode cX8_prints 47 = .ok (.iload 5, 2) := by decide +kernel
theorem dX8_prints_49 : decode cX8_prints 49 = .ok (.aload_n 1, 1) := by decide +kernel
theorem dX8_prints_50 : decode cX8_prints 50 = .ok (.iload 5, 2) := by decide +kernel
theorem dX8_prints_52 : decode cX8_prints 52 = .ok (.invokestatic 169, 3) := by decide +kernel
theorem dX8_prints_55 : decode cX8_prints 55 = .ok (.iastore, 1) := by decide +kernel
theorem dX8_prints_56 : decode cX8_prints 56 = .ok (.iinc 5 1, 3) := by decide +kernel
theorem dX8_prints_59 : decode cX8_prints 59 = .ok (.goto (-33), 3) := by decide +kernel
theorem dX8_prints_62 : decode cX8_prints 62 = .ok (.iconst 0, 1) := by decide +kernel
theorem dX8_prints_63 : decode cX8_prints 63 = .ok (.istore 5, 2) := by decide +kernel
theorem dX8_prints_65 : decode cX8_prints 65 = .ok (.iload 5, 2) := by decide +kernel
theorem dX8_prints_67 : decode cX8_prints 67 = .ok (.aload_n 1, 1) := by decide +kernel
theorem dX8_prints_68 : decode cX8_prints 68 = .ok (.iload 4, 2) := by decide +kernel
theorem dX8_prints_70 : decode cX8_prints 70 = .ok (.iconst 2, 1) := by decide +kernel
theorem dX8_prints_71 : decode cX8_prints 71 = .ok (.iadd, 1) := by decide +kernel
theorem dX8_prints_72 : decode cX8_prints 72 = .ok (.iaload, 1) := by decide +kernel
theorem dX8_prints_73 : decode cX8_prints 73 = .ok (.if_icmp .ge 109, 3) := by decide +kernel
theorem dX8_prints_76 : decode cX8_prints 76 = .ok (.aload_n 1, 1) := by decide +kernel
theorem dX8_prints_77 : decode cX8_prints 77 = .ok (.iload_n 3, 1) := by decide +kernel
theorem dX8_prints_78 : decode cX8_prints 78 = .ok (.iload 5, 2) := by decide +kernel
theorem dX8_prints_80 : decode cX8_prints 80 = .ok (.bipush (-15), 2) := by decide +kernel
theorem dX8_prints_82 : decode cX8_prints 82 = .ok (.aload_n 0, 1) := by decide +kernel
theorem dX8_prints_83 : decode cX8_prints 83 = .ok (.getfield 50, 3) := by decide +kernel
theorem dX8_prints_86 : decode cX8_prints 86 = .ok (.iload_n 3, 1) := by decide +kernel
theorem dX8_prints_87 : decode cX8_prints 87 = .ok (.iaload, 1) := by decide +kernel
theorem dX8_prints_88 : decode cX8_prints 88 = .ok (.iadd, 1) := by decide +kernel
theorem dX8_prints_89 : decode cX8_prints 89 = .ok (.invokestatic 176, 3) := by decide +kernel
theorem dX8_prints_92 : decode cX8_prints 92 = .ok (.istore 6, 2) := by decide +kernel
theorem dX8_prints_94 : decode cX8_prints 94 = .ok (.iload 6, 2) := by decide +kernel
theorem dX8_prints_96 : decode cX8_prints 96 = .ok (.invokestatic 166, 3) := by decide +kernel
theorem dX8_prints_99 : decode cX8_prints 99 = .ok (.aload_n 0, 1) := by decide +kernel
theorem dX8_prints_100 : decode cX8_prints 100 = .ok (.getfield 53, 3) := by decide +kernel
theorem dX8_prints_103 : decode cX8_prints 103 = .ok (.iload 6, 2) := by decide +kernel
theorem dX8_prints_105 : decode cX8_prints 105 = .ok (.invokestatic 157, 3) := by decide +kernel
theorem dX8_prints_108 : decode cX8_prints 108 = .ok (.iaload, 1) := by decide +kernel
theorem dX8_prints_109 : decode cX8_prints 109 = .ok (.if_icmp .eq 7, 3) := by decide +kernel
theorem dX8_prints_112 : decode cX8_prints 112 = .ok (.iconst 1, 1) := by decide +kernel
theorem dX8_prints_113 : decode cX8_prints 113 = .ok (.goto 4, 3) := by decide +kernel
theorem dX8_prints_116 : decode cX8_prints 116 = .ok (.iconst 0, 1) := by decide +kernel
theorem dX8_prints_117 : decode cX8_prints 117 = .ok (.istore 7, 2) := by decide +kernel
theorem dX8_prints_119 : decode cX8_prints 119 = .ok (.aload_n 0, 1) := by decide +kernel
theorem dX8_prints_120 : decode cX8_prints 120 = .ok (.getfield 56, 3) := by decide +kernel
theorem dX8_prints_123 : decode cX8_prints 123 = .ok (.aload_n 1, 1) := by decide +kernel
theorem dX8_prints_124 : decode cX8_prints 124 = .ok (.iload 4, 2) := by decide +kernel
theorem dX8_prints_126 : decode cX8_prints 126 = .ok (.iconst 1, 1) := by decide +kernel
theorem dX8_prints_127 : decode cX8_prints 127 = .ok (.iadd, 1) := by decide +kernel
theorem dX8_prints_128 : decode cX8_prints 128 = .ok (.iaload, 1) := by decide +kernel
theorem dX8_prints_129 : decode cX8_prints 129 = .ok (.iload 5, 2) := by decide +kernel
theorem dX8_prints_131 : decode cX8_prints 131 = .ok (.iadd, 1) := by decide +kernel
theorem dX8_prints_132 : decode cX8_prints 132 = .ok (.iload 7, 2) := by decide +kernel
theorem dX8_prints_134 : decode cX8_prints 134 = .ok (.ifCond .eq 11, 3) := by decide +kernel
theorem dX8_prints_137 : decode cX8_prints 137 = .ok (.iload 6, 2) := by decide +kernel
theorem dX8_prints_139 : decode cX8_prints 139 = .ok (.invokestatic 166, 3) := by decide +kernel
theorem dX8_prints_142 : decode cX8_prints 142 = .ok (.goto 5, 3) := by decide +kernel
theorem dX8_prints_145 : decode cX8_prints 145 = .ok (.ldc 62, 2) := by decide +kernel
theorem dX8_prints_147 : decode cX8_prints 147 = .ok (.iastore, 1) := by decide +kernel
theorem dX8_prints_148 : decode cX8_prints 148 = .ok (.aload_n 0, 1) := by decide +kernel
theorem dX8_prints_149 : decode cX8_prints 149 = .ok (.getfield 53, 3) := by decide +kernel
theorem dX8_prints_152 : decode cX8_prints 152 = .ok (.iload 6, 2) := by decide +kernel
theorem dX8_prints_154 : decode cX8_prints 154 = .ok (.invokestatic 157, 3) := by decide +kernel
theorem dX8_prints_157 : decode cX8_prints 157 = .ok (.iload 6, 2) := by decide +kernel
theorem dX8_prints_159 : decode cX8_prints 159 = .ok (.invokestatic 166, 3) := by decide +kernel
theorem dX8_prints_162 : decode cX8_prints 162 = .ok (.iastore, 1) := by decide +kernel
theorem dX8_prints_163 : decode cX8_prints 163 = .ok (.iload_n 2, 1) := by decide +kernel
theorem dX8_prints_164 : decode cX8_prints 164 = .ok (.iload 7, 2) := by decide +kernel
theorem dX8_prints_166 : decode cX8_prints 166 = .ok (.ifCond .eq 7, 3) := by decide +kernel
theorem dX8_prints_169 : decode cX8_prints 169 = .ok (.iconst 1, 1) := by decide +kernel
theorem dX8_prints_170 : decode cX8_prints 170 = .ok (.goto 4, 3) := by decide +kernel
theorem dX8_prints_173 : decode cX8_prints 173 = .ok (.iconst 0, 1) := by decide +kernel
theorem dX8_prints_174 : decode cX8_prints 174 = .ok (.iadd, 1) := by decide +kernel
theorem dX8_prints_175 : decode cX8_prints 175 = .ok (.istore_n 2, 1) := by decide +kernel
theorem dX8_prints_176 : decode cX8_prints 176 = .ok (.iinc 5 1, 3) := by decide +kernel
theorem dX8_prints_179 : decode cX8_prints 179 = .ok (.goto (-114), 3) := by decide +kernel
theorem dX8_prints_182 : decode cX8_prints 182 = .ok (.iinc 3 1, 3) := by decide +kernel
theorem dX8_prints_185 : decode cX8_prints 185 = .ok (.goto (-176), 3) := by decide +kernel
theorem dX8_prints_188 : decode cX8_prints 188 = .ok (.iload_n 2, 1) := by decide +kernel
theorem dX8_prints_189 : decode cX8_prints 189 = .ok (.ireturn, 1) := by decide +kernel
theorem dX8_notes_0 : decode cX8_notes 0 = .ok (.aload_n 0, 1) := by decide +kernel
theorem dX8_notes_1 : decode cX8_notes 1 = .ok (.getfield 151, 3) := by decide +kernel
theorem dX8_notes_4 : decode cX8_notes 4 = .ok (.bipush 16, 2) := by decide +kernel
theorem dX8_notes_6 : decode cX8_notes 6 = .ok (.if_icmp .ne 43, 3) := by decide +kernel
theorem dX8_notes_9 : decode cX8_notes 9 = .ok (.iconst 0, 1) := by decide +kernel
theorem dX8_notes_10 : decode cX8_notes 10 = .ok (.istore_n 1, 1) := by decide +kernel
theorem dX8_notes_11 : decode cX8_notes 11 = .ok (.iload_n 1, 1) := by decide +kernel
theorem dX8_notes_12 : decode cX8_notes 12 = .ok (.sipush 1395, 3) := by decide +kernel
theorem dX8_notes_15 : decode cX8_notes 15 = .ok (.if_icmp .ge 24, 3) := by decide +kernel
theorem dX8_notes_18 : decode cX8_notes 18 = .ok (.aload_n 0, 1) := by decide +kernel
theorem dX8_notes_19 : decode cX8_notes 19 = .ok (.getfield 34, 3) := by decide +kernel
theorem dX8_notes_22 : decode cX8_notes 22 = .ok (.iload_n 1, 1) := by decide +kernel
theorem dX8_notes_23 : decode cX8_notes 23 = .ok (.aload_n 0, 1) := by decide +kernel
theorem dX8_notes_24 : decode cX8_notes 24 = .ok (.getfield 34, 3) := by decide +kernel
theorem dX8_notes_27 : decode cX8_notes 27 = .ok (.iload_n 1, 1) := by decide +kernel
theorem dX8_notes_28 : decode cX8_notes 28 = .ok (.bipush 93, 2) := by decide +kernel
theorem dX8_notes_30 : decode cX8_notes 30 = .ok (.iadd, 1) := by decide +kernel
theorem dX8_notes_31 : decode cX8_notes 31 = .ok (.iaload, 1) := by decide +kernel
theorem dX8_notes_32 : decode cX8_notes 32 = .ok (.iastore, 1) := by decide +kernel
theorem dX8_notes_33 : decode cX8_notes 33 = .ok (.iinc 1 1, 3) := by decide +kernel
theorem dX8_notes_36 : decode cX8_notes 36 = .ok (.goto (-25), 3) := by decide +kernel
theorem dX8_notes_39 : decode cX8_notes 39 = .ok (.aload_n 0, 1) := by decide +kernel
theorem dX8_notes_40 : decode cX8_notes 40 = .ok (.dup, 1) := by decide +kernel
theorem dX8_notes_41 : decode cX8_notes 41 = .ok (.getfield 151, 3) := by decide +kernel
theorem dX8_notes_44 : decode cX8_notes 44 = .ok (.iconst 1, 1) := by decide +kernel
theorem dX8_notes_45 : decode cX8_notes 45 = .ok (.isub, 1) := by decide +kernel
theorem dX8_notes_46 : decode cX8_notes 46 = .ok (.putfield 151, 3) := by decide +kernel
theorem dX8_notes_49 : decode cX8_notes 49 = .ok (.aload_n 0, 1) := by decide +kernel
theorem dX8_notes_50 : decode cX8_notes 50 = .ok (.getfield 25, 3) := by decide +kernel
theorem dX8_notes_53 : decode cX8_notes 53 = .ok (.iconst 0, 1) := by decide +kernel
theorem dX8_notes_54 : decode cX8_notes 54 = .ok (.aload_n 0, 1) := by decide +kernel
theorem dX8_notes_55 : decode cX8_notes 55 = .ok (.getfield 34, 3) := by decide +kernel
theorem dX8_notes_58 : decode cX8_notes 58 = .ok (.bipush 93, 2) := by decide +kernel
theorem dX8_notes_60 : decode cX8_notes 60 = .ok (.aload_n 0, 1) := by decide +kernel
theorem dX8_notes_61 : decode cX8_notes 61 = .ok (.getfield 151, 3) := by decide +kernel
theorem dX8_notes_64 : decode cX8_notes 64 = .ok (.imul, 1) := by decide +kernel
theorem dX8_notes_65 : decode cX8_notes 65 = .ok (.invokestatic 147, 3) := by decide +kernel
theorem dX8_notes_68 : decode cX8_notes 68 = .ok (.aload_n 0, 1) := by decide +kernel
theorem dX8_notes_69 : decode cX8_notes 69 = .ok (.dup, 1) := by decide +kernel
theorem dX8_notes_70 : decode cX8_notes 70 = .ok (.getfield 151, 3) := by decide +kernel
theorem dX8_notes_73 : decode cX8_notes 73 = .ok (.iconst 1, 1) := by decide +kernel
theorem dX8_notes_74 : decode cX8_notes 74 = .ok (.iadd, 1) := by decide +kernel
theorem dX8_notes_75 : decode cX8_notes 75 = .ok (.putfield 151, 3) := by decide +kernel
theorem dX8_notes_78 : decode cX8_notes 78 = .ok (.return_, 1) := by decide +kernel
theorem dX8_key_0 : decode cX8_key 0 = .ok (.aload_n 0, 1) := by decide +kernel
theorem dX8_key_1 : decode cX8_key 1 = .ok (.iload_n 1, 1) := by decide +kernel
theorem dX8_key_2 : decode cX8_key 2 = .ok (.invokevirtual 205, 3) := by decide +kernel
theorem dX8_key_5 : decode cX8_key 5 = .ok (.ifCond .eq 13, 3) := by decide +kernel
theorem dX8_key_8 : decode cX8_key 8 = .ok (.iload_n 2, 1) := by decide +kernel
theorem dX8_key_9 : decode cX8_key 9 = .ok (.iconst 0, 1) := by decide +kernel
theorem dX8_key_10 : decode cX8_key 10 = .ok (.bipush 11, 2) := by decide +kernel
theorem dX8_key_12 : decode cX8_key 12 = .ok (.invokestatic 68, 3) := by decide +kernel
theorem dX8_key_15 : decode cX8_key 15 = .ok (.ifCond .ne 6, 3) := by decide +kernel
theorem dX8_key_18 : decode cX8_key 18 = .ok (.ldc 76, 2) := by decide +kernel
theorem dX8_key_20 : decode cX8_key 20 = .ok (.ireturn, 1) := by decide +kernel
theorem dX8_key_21 : decode cX8_key 21 = .ok (.aload_n 0, 1) := by decide +kernel
theorem dX8_key_22 : decode cX8_key 22 = .ok (.getfield 25, 3) := by decide +kernel
theorem dX8_key_25 : decode cX8_key 25 = .ok (.bipush 53, 2) := by decide +kernel
theorem dX8_key_27 : decode cX8_key 27 = .ok (.iload_n 1, 1) := by decide +kernel
theorem dX8_key_28 : decode cX8_key 28 = .ok (.iadd, 1) := by decide +kernel
theorem dX8_key_29 : decode cX8_key 29 = .ok (.iaload, 1) := by decide +kernel
theorem dX8_key_30 : decode cX8_key 30 = .ok (.istore_n 3, 1) := by decide +kernel
theorem dX8_key_31 : decode cX8_key 31 = .ok (.iload_n 3, 1) := by decide +kernel
theorem dX8_key_32 : decode cX8_key 32 = .ok (.iload_n 2, 1) := by decide +kernel
theorem dX8_key_33 : decode cX8_key 33 = .ok (.if_icmp .ne 6, 3) := by decide +kernel
theorem dX8_key_36 : decode cX8_key 36 = .ok (.ldc 208, 2) := by decide +kernel
theorem dX8_key_38 : decode cX8_key 38 = .ok (.ireturn, 1) := by decide +kernel
theorem dX8_key_39 : decode cX8_key 39 = .ok (.aload_n 0, 1) := by decide +kernel
theorem dX8_key_40 : decode cX8_key 40 = .ok (.invokevirtual 209, 3) := by decide +kernel
theorem dX8_key_43 : decode cX8_key 43 = .ok (.aload_n 0, 1) := by decide +kernel
theorem dX8_key_44 : decode cX8_key 44 = .ok (.getfield 25, 3) := by decide +kernel
theorem dX8_key_47 : decode cX8_key 47 = .ok (.bipush 53, 2) := by decide +kernel
theorem dX8_key_49 : decode cX8_key 49 = .ok (.iload_n 1, 1) := by decide +kernel
theorem dX8_key_50 : decode cX8_key 50 = .ok (.iadd, 1) := by decide +kernel
theorem dX8_key_51 : decode cX8_key 51 = .ok (.iload_n 2, 1) := by decide +kernel
theorem dX8_key_52 : decode cX8_key 52 = .ok (.iastore, 1) := by decide +kernel
theorem dX8_key_53 : decode cX8_key 53 = .ok (.iload_n 3, 1) := by decide +kernel
theorem dX8_key_54 : decode cX8_key 54 = .ok (.ireturn, 1) := by decide +kernel
theorem dX8_become_0 : decode cX8_become 0 = .ok (.aload_n 0, 1) := by decide +kernel
theorem dX8_become_1 : decode cX8_become 1 = .ok (.iload_n 1, 1) := by decide +kernel
theorem dX8_become_2 : decode cX8_become 2 = .ok (.invokevirtual 212, 3) := by decide +kernel
theorem dX8_become_5 : decode cX8_become 5 = .ok (.ifCond .eq 12, 3) := by decide +kernel
theorem dX8_become_8 : decode cX8_become 8 = .ok (.iload_n 2, 1) := by decide +kernel
theorem dX8_become_9 : decode cX8_become 9 = .ok (.iconst 1, 1) := by decide +kernel
theorem dX8_become_10 : decode cX8_become 10 = .ok (.iconst 5, 1) := by decide +kernel
theorem dX8_become_11 : decode cX8_become 11 = .ok (.invokestatic 68, 3) := by decide +kernel
theorem dX8_become_14 : decode cX8_become 14 = .ok (.ifCond .ne 6, 3) := by decide +kernel
theorem dX8_become_17 : decode cX8_become 17 = .ok (.ldc 76, 2) := by decide +kernel
theorem dX8_become_19 : decode cX8_become 19 = .ok (.ireturn, 1) := by decide +kernel
theorem dX8_become_20 : decode cX8_become 20 = .ok (.aload_n 0, 1) := by decide +kernel
theorem dX8_become_21 : decode cX8_become 21 = .ok (.getfield 25, 3) := by decide +kernel
theorem dX8_become_24 : decode cX8_become 24 = .ok (.iconst 3, 1) := by decide +kernel
theorem dX8_become_25 : decode cX8_become 25 = .ok (.iconst 5, 1) := by decide +kernel
theorem dX8_become_26 : decode cX8_become 26 = .ok (.iload_n 1, 1) := by decide +kernel
theorem dX8_become_27 : decode cX8_become 27 = .ok (.imul, 1) := by decide +kernel
theorem dX8_become_28 : decode cX8_become 28 = .ok (.iadd, 1) := by decide +kernel
theorem dX8_become_29 : decode cX8_become 29 = .ok (.iaload, 1) := by decide +kernel
theorem dX8_become_30 : decode cX8_become 30 = .ok (.istore_n 3, 1) := by decide +kernel
theorem dX8_become_31 : decode cX8_become 31 = .ok (.iload_n 3, 1) := by decide +kernel
theorem dX8_become_32 : decode cX8_become 32 = .ok (.iload_n 2, 1) := by decide +kernel
theorem dX8_become_33 : decode cX8_become 33 = .ok (.if_icmp .ne 6, 3) := by decide +kernel
theorem dX8_become_36 : decode cX8_become 36 = .ok (.ldc 208, 2) := by decide +kernel
theorem dX8_become_38 : decode cX8_become 38 = .ok (.ireturn, 1) := by decide +kernel
theorem dX8_become_39 : decode cX8_become 39 = .ok (.aload_n 0, 1) := by decide +kernel
theorem dX8_become_40 : decode cX8_become 40 = .ok (.invokevirtual 209, 3) := by decide +kernel
theorem dX8_become_43 : decode cX8_become 43 = .ok (.aload_n 0, 1) := by decide +kernel
theorem dX8_become_44 : decode cX8_become 44 = .ok (.getfield 25, 3) := by decide +kernel
theorem dX8_become_47 : decode cX8_become 47 = .ok (.iconst 3, 1) := by decide +kernel
theorem dX8_become_48 : decode cX8_become 48 = .ok (.iconst 5, 1) := by decide +kernel
theorem dX8_become_49 : decode cX8_become 49 = .ok (.iload_n 1, 1) := by decide +kernel
theorem dX8_become_50 : decode cX8_become 50 = .ok (.imul, 1) := by decide +kernel
theorem dX8_become_51 : decode cX8_become 51 = .ok (.iadd, 1) := by decide +kernel
theorem dX8_become_52 : decode cX8_become 52 = .ok (.iload_n 2, 1) := by decide +kernel
theorem dX8_become_53 : decode cX8_become 53 = .ok (.iastore, 1) := by decide +kernel
theorem dX8_become_54 : decode cX8_become 54 = .ok (.iload_n 3, 1) := by decide +kernel
theorem dX8_become_55 : decode cX8_become 55 = .ok (.ireturn, 1) := by decide +kernel
theorem dX8_sign_0 : decode cX8_sign 0 = .ok (.aload_n 0, 1) := by decide +kernel
theorem dX8_sign_1 : decode cX8_sign 1 = .ok (.invokevirtual 215, 3) := by decide +kernel
theorem dX8_sign_4 : decode cX8_sign 4 = .ok (.ifCond .ne 6, 3) := by decide +kernel
theorem dX8_sign_7 : decode cX8_sign 7 = .ok (.ldc 208, 2) := by decide +kernel
theorem dX8_sign_9 : decode cX8_sign 9 = .ok (.ireturn, 1) := by decide +kernel
theorem dX8_sign_10 : decode cX8_sign 10 = .ok (.iload_n 1, 1) := by decide +kernel
theorem dX8_sign_11 : decode cX8_sign 11 = .ok (.iconst 0, 1) := by decide +kernel
theorem dX8_sign_12 : decode cX8_sign 12 = .ok (.bipush 14, 2) := by decide +kernel
theorem dX8_sign_14 : decode cX8_sign 14 = .ok (.invokestatic 68, 3) := by decide +kernel
theorem dX8_sign_17 : decode cX8_sign 17 = .ok (.ifCond .ne 6, 3) := by decide +kernel
theorem dX8_sign_20 : decode cX8_sign 20 = .ok (.ldc 76, 2) := by decide +kernel
theorem dX8_sign_22 : decode cX8_sign 22 = .ok (.ireturn, 1) := by decide +kernel
theorem dX8_sign_23 : decode cX8_sign 23 = .ok (.aload_n 0, 1) := by decide +kernel
theorem dX8_sign_24 : decode cX8_sign 24 = .ok (.getfield 25, 3) := by decide +kernel
theorem dX8_sign_27 : decode cX8_sign 27 = .ok (.iconst 0, 1) := by decide +kernel
theorem dX8_sign_28 : decode cX8_sign 28 = .ok (.iaload, 1) := by decide +kernel
theorem dX8_sign_29 : decode cX8_sign 29 = .ok (.istore_n 2, 1) := by decide +kernel
theorem dX8_sign_30 : decode cX8_sign 30 = .ok (.iload_n 2, 1) := by decide +kernel
theorem dX8_sign_31 : decode cX8_sign 31 = .ok (.iload_n 1, 1) := by decide +kernel
theorem dX8_sign_32 : decode cX8_sign 32 = .ok (.if_icmp .ne 6, 3) := by decide +kernel
theorem dX8_sign_35 : decode cX8_sign 35 = .ok (.ldc 208, 2) := by decide +kernel
theorem dX8_sign_37 : decode cX8_sign 37 = .ok (.ireturn, 1) := by decide +kernel
theorem dX8_sign_38 : decode cX8_sign 38 = .ok (.aload_n 0, 1) := by decide +kernel
theorem dX8_sign_39 : decode cX8_sign 39 = .ok (.invokevirtual 209, 3) := by decide +kernel
theorem dX8_sign_42 : decode cX8_sign 42 = .ok (.aload_n 0, 1) := by decide +kernel
theorem dX8_sign_43 : decode cX8_sign 43 = .ok (.getfield 25, 3) := by decide +kernel
theorem dX8_sign_46 : decode cX8_sign 46 = .ok (.iconst 0, 1) := by decide +kernel
theorem dX8_sign_47 : decode cX8_sign 47 = .ok (.iload_n 1, 1) := by decide +kernel
theorem dX8_sign_48 : decode cX8_sign 48 = .ok (.iastore, 1) := by decide +kernel
theorem dX8_sign_49 : decode cX8_sign 49 = .ok (.iload_n 2, 1) := by decide +kernel
theorem dX8_sign_50 : decode cX8_sign 50 = .ok (.ireturn, 1) := by decide +kernel
theorem dX8_shift_0 : decode cX8_shift 0 = .ok (.aload_n 0, 1) := by decide +kernel
theorem dX8_shift_1 : decode cX8_shift 1 = .ok (.invokevirtual 215, 3) := by decide +kernel
theorem dX8_shift_4 : decode cX8_shift 4 = .ok (.ifCond .ne 6, 3) := by decide +kernel
theorem dX8_shift_7 : decode cX8_shift 7 = .ok (.ldc 208, 2) := by decide +kernel
theorem dX8_shift_9 : decode cX8_shift 9 = .ok (.ireturn, 1) := by decide +kernel
theorem dX8_shift_10 : decode cX8_shift 10 = .ok (.iload_n 1, 1) := by decide +kernel
theorem dX8_shift_11 : decode cX8_shift 11 = .ok (.bipush (-6), 2) := by decide +kernel
theorem dX8_shift_13 : decode cX8_shift 13 = .ok (.bipush 6, 2) := by decide +kernel
theorem dX8_shift_15 : decode cX8_shift 15 = .ok (.invokestatic 68, 3) := by decide +kernel
theorem dX8_shift_18 : decode cX8_shift 18 = .ok (.ifCond .ne 6, 3) := by decide +kernel
theorem dX8_shift_21 : decode cX8_shift 21 = .ok (.ldc 76, 2) := by decide +kernel
theorem dX8_shift_23 : decode cX8_shift 23 = .ok (.ireturn, 1) := by decide +kernel
theorem dX8_shift_24 : decode cX8_shift 24 = .ok (.iload_n 1, 1) := by decide +kernel
theorem dX8_shift_25 : decode cX8_shift 25 = .ok (.ifCond .eq 20, 3) := by decide +kernel
theorem dX8_shift_28 : decode cX8_shift 28 = .ok (.aload_n 0, 1) := by decide +kernel
theorem dX8_shift_29 : decode cX8_shift 29 = .ok (.getfield 25, 3) := by decide +kernel
theorem dX8_shift_32 : decode cX8_shift 32 = .ok (.iconst 0, 1) := by decide +kernel
theorem dX8_shift_33 : decode cX8_shift 33 = .ok (.iaload, 1) := by decide +kernel
theorem dX8_shift_34 : decode cX8_shift 34 = .ok (.iload_n 1, 1) := by decide +kernel
theorem dX8_shift_35 : decode cX8_shift 35 = .ok (.iadd, 1) := by decide +kernel
theorem dX8_shift_36 : decode cX8_shift 36 = .ok (.iconst 0, 1) := by decide +kernel
theorem dX8_shift_37 : decode cX8_shift 37 = .ok (.bipush 14, 2) := by decide +kernel
theorem dX8_shift_39 : decode cX8_shift 39 = .ok (.invokestatic 68, 3) := by decide +kernel
theorem dX8_shift_42 : decode cX8_shift 42 = .ok (.ifCond .ne 6, 3) := by decide +kernel
theorem dX8_shift_45 : decode cX8_shift 45 = .ok (.ldc 208, 2) := by decide +kernel
theorem dX8_shift_47 : decode cX8_shift 47 = .ok (.ireturn, 1) := by decide +kernel
theorem dX8_shift_48 : decode cX8_shift 48 = .ok (.aload_n 0, 1) := by decide +kernel
theorem dX8_shift_49 : decode cX8_shift 49 = .ok (.invokevirtual 209, 3) := by decide +kernel
theorem dX8_shift_52 : decode cX8_shift 52 = .ok (.aload_n 0, 1) := by decide +kernel
theorem dX8_shift_53 : decode cX8_shift 53 = .ok (.getfield 25, 3) := by decide +kernel
theorem dX8_shift_56 : decode cX8_shift 56 = .ok (.iconst 0, 1) := by decide +kernel
theorem dX8_shift_57 : decode cX8_shift 57 = .ok (.dup2, 1) := by decide +kernel
theorem dX8_shift_58 : decode cX8_shift 58 = .ok (.iaload, 1) := by decide +kernel
theorem dX8_shift_59 : decode cX8_shift 59 = .ok (.iload_n 1, 1) := by decide +kernel
theorem dX8_shift_60 : decode cX8_shift 60 = .ok (.iadd, 1) := by decide +kernel
theorem dX8_shift_61 : decode cX8_shift 61 = .ok (.iastore, 1) := by decide +kernel
theorem dX8_shift_62 : decode cX8_shift 62 = .ok (.iconst 0, 1) := by decide +kernel
theorem dX8_shift_63 : decode cX8_shift 63 = .ok (.istore_n 2, 1) := by decide +kernel
theorem dX8_shift_64 : decode cX8_shift 64 = .ok (.iload_n 2, 1) := by decide +kernel
theorem dX8_shift_65 : decode cX8_shift 65 = .ok (.aload_n 0, 1) := by decide +kernel
theorem dX8_shift_66 : decode cX8_shift 66 = .ok (.getfield 25, 3) := by decide +kernel
theorem dX8_shift_69 : decode cX8_shift 69 = .ok (.iconst 2, 1) := by decide +kernel
theorem dX8_shift_70 : decode cX8_shift 70 = .ok (.iaload, 1) := by decide +kernel
theorem dX8_shift_71 : decode cX8_shift 71 = .ok (.if_icmp .ge 37, 3) := by decide +kernel
theorem dX8_shift_74 : decode cX8_shift 74 = .ok (.aload_n 0, 1) := by decide +kernel
theorem dX8_shift_75 : decode cX8_shift 75 = .ok (.getfield 25, 3) := by decide +kernel
theorem dX8_shift_78 : decode cX8_shift 78 = .ok (.bipush 53, 2) := by decide +kernel
theorem dX8_shift_80 : decode cX8_shift 80 = .ok (.iload_n 2, 1) := by decide +kernel
theorem dX8_shift_81 : decode cX8_shift 81 = .ok (.iadd, 1) := by decide +kernel
theorem dX8_shift_82 : decode cX8_shift 82 = .ok (.aload_n 0, 1) := by decide +kernel
theorem dX8_shift_83 : decode cX8_shift 83 = .ok (.getfield 25, 3) := by decide +kernel
theorem dX8_shift_86 : decode cX8_shift 86 = .ok (.bipush 53, 2) := by decide +kernel
theorem dX8_shift_88 : decode cX8_shift 88 = .ok (.iload_n 2, 1) := by decide +kernel
theorem dX8_shift_89 : decode cX8_shift 89 = .ok (.iadd, 1) := by decide +kernel
theorem dX8_shift_90 : decode cX8_shift 90 = .ok (.iaload, 1) := by decide +kernel
theorem dX8_shift_91 : decode cX8_shift 91 = .ok (.bipush 7, 2) := by decide +kernel
theorem dX8_shift_93 : decode cX8_shift 93 = .ok (.iload_n 1, 1) := by decide +kernel
theorem dX8_shift_94 : decode cX8_shift 94 = .ok (.imul, 1) := by decide +kernel
theorem dX8_shift_95 : decode cX8_shift 95 = .ok (.iadd, 1) := by decide +kernel
theorem dX8_shift_96 : decode cX8_shift 96 = .ok (.bipush 12, 2) := by decide +kernel
theorem dX8_shift_98 : decode cX8_shift 98 = .ok (.invokestatic 154, 3) := by decide +kernel
theorem dX8_shift_101 : decode cX8_shift 101 = .ok (.iastore, 1) := by decide +kernel
theorem dX8_shift_102 : decode cX8_shift 102 = .ok (.iinc 2 1, 3) := by decide +kernel
theorem dX8_shift_105 : decode cX8_shift 105 = .ok (.goto (-41), 3) := by decide +kernel
theorem dX8_shift_108 : decode cX8_shift 108 = .ok (.aload_n 0, 1) := by decide +kernel
theorem dX8_shift_109 : decode cX8_shift 109 = .ok (.getfield 25, 3) := by decide +kernel
theorem dX8_shift_112 : decode cX8_shift 112 = .ok (.iconst 0, 1) := by decide +kernel
theorem dX8_shift_113 : decode cX8_shift 113 = .ok (.iaload, 1) := by decide +kernel
theorem dX8_shift_114 : decode cX8_shift 114 = .ok (.ireturn, 1) := by decide +kernel
theorem dX8_undo_0 : decode cX8_undo 0 = .ok (.aload_n 0, 1) := by decide +kernel
theorem dX8_undo_1 : decode cX8_undo 1 = .ok (.getfield 151, 3) := by decide +kernel
theorem dX8_undo_4 : decode cX8_undo 4 = .ok (.ifCond .ne 6, 3) := by decide +kernel
theorem dX8_undo_7 : decode cX8_undo 7 = .ok (.ldc 208, 2) := by decide +kernel
theorem dX8_undo_9 : decode cX8_undo 9 = .ok (.ireturn, 1) := by decide +kernel
theorem dX8_undo_10 : decode cX8_undo 10 = .ok (.aload_n 0, 1) := by decide +kernel
theorem dX8_undo_11 : decode cX8_undo 11 = .ok (.dup, 1) := by decide +kernel
theorem dX8_undo_12 : decode cX8_undo 12 = .ok (.getfield 151, 3) := by decide +kernel
theorem dX8_undo_15 : decode cX8_undo 15 = .ok (.iconst 1, 1) := by decide +kernel
theorem dX8_undo_16 : decode cX8_undo 16 = .ok (.isub, 1) := by decide +kernel
theorem dX8_undo_17 : decode cX8_undo 17 = .ok (.putfield 151, 3) := by decide +kernel
theorem dX8_undo_20 : decode cX8_undo 20 = .ok (.aload_n 0, 1) := by decide +kernel
theorem dX8_undo_21 : decode cX8_undo 21 = .ok (.getfield 34, 3) := by decide +kernel
theorem dX8_undo_24 : decode cX8_undo 24 = .ok (.bipush 93, 2) := by decide +kernel
theorem dX8_undo_26 : decode cX8_undo 26 = .ok (.aload_n 0, 1) := by decide +kernel
theorem dX8_undo_27 : decode cX8_undo 27 = .ok (.getfield 151, 3) := by decide +kernel
theorem dX8_undo_30 : decode cX8_undo 30 = .ok (.imul, 1) := by decide +kernel
theorem dX8_undo_31 : decode cX8_undo 31 = .ok (.aload_n 0, 1) := by decide +kernel
theorem dX8_undo_32 : decode cX8_undo 32 = .ok (.getfield 25, 3) := by decide +kernel
theorem dX8_undo_35 : decode cX8_undo 35 = .ok (.iconst 0, 1) := by decide +kernel
theorem dX8_undo_36 : decode cX8_undo 36 = .ok (.invokestatic 147, 3) := by decide +kernel
theorem dX8_undo_39 : decode cX8_undo 39 = .ok (.aload_n 0, 1) := by decide +kernel
theorem dX8_undo_40 : decode cX8_undo 40 = .ok (.getfield 151, 3) := by decide +kernel
theorem dX8_undo_43 : decode cX8_undo 43 = .ok (.ireturn, 1) := by decide +kernel
theorem dX8_place_0 : decode cX8_place 0 = .ok (.iload_n 1, 1) := by decide +kernel
theorem dX8_place_1 : decode cX8_place 1 = .ok (.bipush (-15), 2) := by decide +kernel
theorem dX8_place_3 : decode cX8_place 3 = .ok (.bipush 19, 2) := by decide +kernel
theorem dX8_place_5 : decode cX8_place 5 = .ok (.invokestatic 68, 3) := by decide +kernel
theorem dX8_place_8 : decode cX8_place 8 = .ok (.ifCond .ne 6, 3) := by decide +kernel
theorem dX8_place_11 : decode cX8_place 11 = .ok (.ldc 76, 2) := by decide +kernel
theorem dX8_place_13 : decode cX8_place 13 = .ok (.ireturn, 1) := by decide +kernel
theorem dX8_place_14 : decode cX8_place 14 = .ok (.iload_n 2, 1) := by decide +kernel
theorem dX8_place_15 : decode cX8_place 15 = .ok (.ifCond .ne 10, 3) := by decide +kernel
theorem dX8_place_18 : decode cX8_place 18 = .ok (.iload_n 1, 1) := by decide +kernel
theorem dX8_place_19 : decode cX8_place 19 = .ok (.invokestatic 157, 3) := by decide +kernel
theorem dX8_place_22 : decode cX8_place 22 = .ok (.goto 29, 3) := by decide +kernel
theorem dX8_place_25 : decode cX8_place 25 = .ok (.iload_n 2, 1) := by decide +kernel
theorem dX8_place_26 : decode cX8_place 26 = .ok (.iconst 1, 1) := by decide +kernel
theorem dX8_place_27 : decode cX8_place 27 = .ok (.if_icmp .ne 10, 3) := by decide +kernel
theorem dX8_place_30 : decode cX8_place 30 = .ok (.iload_n 1, 1) := by decide +kernel
theorem dX8_place_31 : decode cX8_place 31 = .ok (.invokestatic 166, 3) := by decide +kernel
theorem dX8_place_34 : decode cX8_place 34 = .ok (.goto 17, 3) := by decide +kernel
theorem dX8_place_37 : decode cX8_place 37 = .ok (.iload_n 2, 1) := by decide +kernel
theorem dX8_place_38 : decode cX8_place 38 = .ok (.iconst 2, 1) := by decide +kernel
theorem dX8_place_39 : decode cX8_place 39 = .ok (.if_icmp .ne 10, 3) := by decide +kernel
theorem dX8_place_42 : decode cX8_place 42 = .ok (.iload_n 1, 1) := by decide +kernel
theorem dX8_place_43 : decode cX8_place 43 = .ok (.invokestatic 160, 3) := by decide +kernel
theorem dX8_place_46 : decode cX8_place 46 = .ok (.goto 5, 3) := by decide +kernel
theorem dX8_place_49 : decode cX8_place 49 = .ok (.ldc 76, 2) := by decide +kernel
theorem dX8_place_51 : decode cX8_place 51 = .ok (.ireturn, 1) := by decide +kernel
theorem dX8_isWindow_0 : decode cX8_isWindow 0 = .ok (.iload_n 0, 1) := by decide +kernel
theorem dX8_isWindow_1 : decode cX8_isWindow 1 = .ok (.bipush (-15), 2) := by decide +kernel
theorem dX8_isWindow_3 : decode cX8_isWindow 3 = .ok (.bipush 8, 2) := by decide +kernel
theorem dX8_isWindow_5 : decode cX8_isWindow 5 = .ok (.invokestatic 68, 3) := by decide +kernel
theorem dX8_isWindow_8 : decode cX8_isWindow 8 = .ok (.ireturn, 1) := by decide +kernel
theorem dX8_inWindow_0 : decode cX8_inWindow 0 = .ok (.iload_n 1, 1) := by decide +kernel
theorem dX8_inWindow_1 : decode cX8_inWindow 1 = .ok (.invokestatic 218, 3) := by decide +kernel
theorem dX8_inWindow_4 : decode cX8_inWindow 4 = .ok (.ifCond .eq 21, 3) := by decide +kernel
theorem dX8_inWindow_7 : decode cX8_inWindow 7 = .ok (.iload_n 2, 1) := by decide +kernel
theorem dX8_inWindow_8 : decode cX8_inWindow 8 = .ok (.iconst 0, 1) := by decide +kernel
theorem dX8_inWindow_9 : decode cX8_inWindow 9 = .ok (.bipush 11, 2) := by decide +kernel
theorem dX8_inWindow_11 : decode cX8_inWindow 11 = .ok (.invokestatic 68, 3) := by decide +kernel
theorem dX8_inWindow_14 : decode cX8_inWindow 14 = .ok (.ifCond .eq 11, 3) := by decide +kernel
theorem dX8_inWindow_17 : decode cX8_inWindow 17 = .ok (.iload_n 1, 1) := by decide +kernel
theorem dX8_inWindow_18 : decode cX8_inWindow 18 = .ok (.iload_n 2, 1) := by decide +kernel
theorem dX8_inWindow_19 : decode cX8_inWindow 19 = .ok (.invokestatic 163, 3) := by decide +kernel
theorem dX8_inWindow_22 : decode cX8_inWindow 22 = .ok (.goto 5, 3) := by decide +kernel
theorem dX8_inWindow_25 : decode cX8_inWindow 25 = .ok (.ldc 76, 2) := by decide +kernel
theorem dX8_inWindow_27 : decode cX8_inWindow 27 = .ok (.ireturn, 1) := by decide +kernel
theorem dX8_head_0 : decode cX8_head 0 = .ok (.aload_n 0, 1) := by decide +kernel
theorem dX8_head_1 : decode cX8_head 1 = .ok (.invokevirtual 215, 3) := by decide +kernel
theorem dX8_head_4 : decode cX8_head 4 = .ok (.ifCond .eq 24, 3) := by decide +kernel
theorem dX8_head_7 : decode cX8_head 7 = .ok (.iload_n 1, 1) := by decide +kernel
theorem dX8_head_8 : decode cX8_head 8 = .ok (.iconst 0, 1) := by decide +kernel
theorem dX8_head_9 : decode cX8_head 9 = .ok (.bipush 6, 2) := by decide +kernel
theorem dX8_head_11 : decode cX8_head 11 = .ok (.invokestatic 68, 3) := by decide +kernel
theorem dX8_head_14 : decode cX8_head 14 = .ok (.ifCond .eq 14, 3) := by decide +kernel
theorem dX8_head_17 : decode cX8_head 17 = .ok (.aload_n 0, 1) := by decide +kernel
theorem dX8_head_18 : decode cX8_head 18 = .ok (.getfield 25, 3) := by decide +kernel
theorem dX8_head_21 : decode cX8_head 21 = .ok (.iload_n 1, 1) := by decide +kernel
theorem dX8_head_22 : decode cX8_head 22 = .ok (.invokestatic 169, 3) := by decide +kernel
theorem dX8_head_25 : decode cX8_head 25 = .ok (.goto 5, 3) := by decide +kernel
theorem dX8_head_28 : decode cX8_head 28 = .ok (.ldc 76, 2) := by decide +kernel
theorem dX8_head_30 : decode cX8_head 30 = .ok (.ireturn, 1) := by decide +kernel
theorem dX8_chordOf_0 : decode cX8_chordOf 0 = .ok (.iconst 0, 1) := by decide +kernel
theorem dX8_chordOf_1 : decode cX8_chordOf 1 = .ok (.istore_n 2, 1) := by decide +kernel
theorem dX8_chordOf_2 : decode cX8_chordOf 2 = .ok (.iload_n 1, 1) := by decide +kernel
theorem dX8_chordOf_3 : decode cX8_chordOf 3 = .ok (.aload_n 0, 1) := by decide +kernel
theorem dX8_chordOf_4 : decode cX8_chordOf 4 = .ok (.getfield 25, 3) := by decide +kernel
theorem dX8_chordOf_7 : decode cX8_chordOf 7 = .ok (.iconst 3, 1) := by decide +kernel
theorem dX8_chordOf_8 : decode cX8_chordOf 8 = .ok (.iconst 5, 1) := by decide +kernel
theorem dX8_chordOf_9 : decode cX8_chordOf 9 = .ok (.iload_n 2, 1) := by decide +kernel
theorem dX8_chordOf_10 : decode cX8_chordOf 10 = .ok (.imul, 1) := by decide +kernel
theorem dX8_chordOf_11 : decode cX8_chordOf 11 = .ok (.iadd, 1) := by decide +kernel
theorem dX8_chordOf_12 : decode cX8_chordOf 12 = .ok (.iconst 1, 1) := by decide +kernel
theorem dX8_chordOf_13 : decode cX8_chordOf 13 = .ok (.iadd, 1) := by decide +kernel
theorem dX8_chordOf_14 : decode cX8_chordOf 14 = .ok (.iaload, 1) := by decide +kernel
theorem dX8_chordOf_15 : decode cX8_chordOf 15 = .ok (.aload_n 0, 1) := by decide +kernel
theorem dX8_chordOf_16 : decode cX8_chordOf 16 = .ok (.getfield 25, 3) := by decide +kernel
theorem dX8_chordOf_19 : decode cX8_chordOf 19 = .ok (.iconst 3, 1) := by decide +kernel
theorem dX8_chordOf_20 : decode cX8_chordOf 20 = .ok (.iconst 5, 1) := by decide +kernel
theorem dX8_chordOf_21 : decode cX8_chordOf 21 = .ok (.iload_n 2, 1) := by decide +kernel
theorem dX8_chordOf_22 : decode cX8_chordOf 22 = .ok (.imul, 1) := by decide +kernel
theorem dX8_chordOf_23 : decode cX8_chordOf 23 = .ok (.iadd, 1) := by decide +kernel
theorem dX8_chordOf_24 : decode cX8_chordOf 24 = .ok (.iconst 2, 1) := by decide +kernel
theorem dX8_chordOf_25 : decode cX8_chordOf 25 = .ok (.iadd, 1) := by decide +kernel
theorem dX8_chordOf_26 : decode cX8_chordOf 26 = .ok (.iaload, 1) := by decide +kernel
theorem dX8_chordOf_27 : decode cX8_chordOf 27 = .ok (.iadd, 1) := by decide +kernel
theorem dX8_chordOf_28 : decode cX8_chordOf 28 = .ok (.if_icmp .lt 9, 3) := by decide +kernel
theorem dX8_chordOf_31 : decode cX8_chordOf 31 = .ok (.iinc 2 1, 3) := by decide +kernel
theorem dX8_chordOf_34 : decode cX8_chordOf 34 = .ok (.goto (-32), 3) := by decide +kernel
theorem dX8_chordOf_37 : decode cX8_chordOf 37 = .ok (.iload_n 2, 1) := by decide +kernel
theorem dX8_chordOf_38 : decode cX8_chordOf 38 = .ok (.ireturn, 1) := by decide +kernel
theorem dX8_note_0 : decode cX8_note 0 = .ok (.aload_n 0, 1) := by decide +kernel
theorem dX8_note_1 : decode cX8_note 1 = .ok (.iload_n 1, 1) := by decide +kernel
theorem dX8_note_2 : decode cX8_note 2 = .ok (.invokevirtual 205, 3) := by decide +kernel
theorem dX8_note_5 : decode cX8_note 5 = .ok (.ifCond .eq 12, 3) := by decide +kernel
theorem dX8_note_8 : decode cX8_note 8 = .ok (.iload_n 2, 1) := by decide +kernel
theorem dX8_note_9 : decode cX8_note 9 = .ok (.iconst 0, 1) := by decide +kernel
theorem dX8_note_10 : decode cX8_note 10 = .ok (.iconst 5, 1) := by decide +kernel
theorem dX8_note_11 : decode cX8_note 11 = .ok (.invokestatic 68, 3) := by decide +kernel
theorem dX8_note_14 : decode cX8_note 14 = .ok (.ifCond .ne 6, 3) := by decide +kernel
theorem dX8_note_17 : decode cX8_note 17 = .ok (.ldc 76, 2) := by decide +kernel
theorem dX8_note_19 : decode cX8_note 19 = .ok (.ireturn, 1) := by decide +kernel
theorem dX8_note_20 : decode cX8_note 20 = .ok (.aload_n 0, 1) := by decide +kernel
theorem dX8_note_21 : decode cX8_note 21 = .ok (.iload_n 1, 1) := by decide +kernel
theorem dX8_note_22 : decode cX8_note 22 = .ok (.invokevirtual 221, 3) := by decide +kernel
theorem dX8_note_25 : decode cX8_note 25 = .ok (.istore_n 3, 1) := by decide +kernel
theorem dX8_note_26 : decode cX8_note 26 = .ok (.iload_n 2, 1) := by decide +kernel
theorem dX8_note_27 : decode cX8_note 27 = .ok (.iconst 2, 1) := by decide +kernel
theorem dX8_note_28 : decode cX8_note 28 = .ok (.if_icmp .ge 21, 3) := by decide +kernel
theorem dX8_note_31 : decode cX8_note 31 = .ok (.iload_n 2, 1) := by decide +kernel
theorem dX8_note_32 : decode cX8_note 32 = .ok (.ifCond .ne 15, 3) := by decide +kernel
theorem dX8_note_35 : decode cX8_note 35 = .ok (.aload_n 0, 1) := by decide +kernel
theorem dX8_note_36 : decode cX8_note 36 = .ok (.getfield 25, 3) := by decide +kernel
theorem dX8_note_39 : decode cX8_note 39 = .ok (.bipush 53, 2) := by decide +kernel
theorem dX8_note_41 : decode cX8_note 41 = .ok (.iload_n 1, 1) := by decide +kernel
theorem dX8_note_42 : decode cX8_note 42 = .ok (.iadd, 1) := by decide +kernel
theorem dX8_note_43 : decode cX8_note 43 = .ok (.iaload, 1) := by decide +kernel
theorem dX8_note_44 : decode cX8_note 44 = .ok (.goto 4, 3) := by decide +kernel
theorem dX8_note_47 : decode cX8_note 47 = .ok (.iload_n 3, 1) := by decide +kernel
theorem dX8_note_48 : decode cX8_note 48 = .ok (.ireturn, 1) := by decide +kernel
theorem dX8_note_49 : decode cX8_note 49 = .ok (.aload_n 0, 1) := by decide +kernel
theorem dX8_note_50 : decode cX8_note 50 = .ok (.aload_n 0, 1) := by decide +kernel
theorem dX8_note_51 : decode cX8_note 51 = .ok (.getfield 25, 3) := by decide +kernel
theorem dX8_note_54 : decode cX8_note 54 = .ok (.invokevirtual 224, 3) := by decide +kernel
theorem dX8_note_57 : decode cX8_note 57 = .ok (.pop, 1) := by decide +kernel
theorem dX8_note_58 : decode cX8_note 58 = .ok (.bipush (-15), 2) := by decide +kernel
theorem dX8_note_60 : decode cX8_note 60 = .ok (.aload_n 0, 1) := by decide +kernel
theorem dX8_note_61 : decode cX8_note 61 = .ok (.getfield 50, 3) := by decide +kernel
theorem dX8_note_64 : decode cX8_note 64 = .ok (.iload_n 3, 1) := by decide +kernel
theorem dX8_note_65 : decode cX8_note 65 = .ok (.iaload, 1) := by decide +kernel
theorem dX8_note_66 : decode cX8_note 66 = .ok (.iadd, 1) := by decide +kernel
theorem dX8_note_67 : decode cX8_note 67 = .ok (.aload_n 0, 1) := by decide +kernel
theorem dX8_note_68 : decode cX8_note 68 = .ok (.getfield 25, 3) := by decide +kernel
theorem dX8_note_71 : decode cX8_note 71 = .ok (.bipush 53, 2) := by decide +kernel
theorem dX8_note_73 : decode cX8_note 73 = .ok (.iload_n 1, 1) := by decide +kernel
theorem dX8_note_74 : decode cX8_note 74 = .ok (.iadd, 1) := by decide +kernel
theorem dX8_note_75 : decode cX8_note 75 = .ok (.iaload, 1) := by decide +kernel
theorem dX8_note_76 : decode cX8_note 76 = .ok (.invokestatic 163, 3) := by decide +kernel
theorem dX8_note_79 : decode cX8_note 79 = .ok (.istore 4, 2) := by decide +kernel
theorem dX8_note_81 : decode cX8_note 81 = .ok (.iload_n 2, 1) := by decide +kernel
theorem dX8_note_82 : decode cX8_note 82 = .ok (.iconst 2, 1) := by decide +kernel
theorem dX8_note_83 : decode cX8_note 83 = .ok (.if_icmp .ne 8, 3) := by decide +kernel
theorem dX8_note_86 : decode cX8_note 86 = .ok (.iload 4, 2) := by decide +kernel
theorem dX8_note_88 : decode cX8_note 88 = .ok (.goto 35, 3) := by decide +kernel
theorem dX8_note_91 : decode cX8_note 91 = .ok (.iload_n 2, 1) := by decide +kernel
theorem dX8_note_92 : decode cX8_note 92 = .ok (.iconst 3, 1) := by decide +kernel
theorem dX8_note_93 : decode cX8_note 93 = .ok (.if_icmp .ne 11, 3) := by decide +kernel
theorem dX8_note_96 : decode cX8_note 96 = .ok (.iload 4, 2) := by decide +kernel
theorem dX8_note_98 : decode cX8_note 98 = .ok (.invokestatic 157, 3) := by decide +kernel
theorem dX8_note_101 : decode cX8_note 101 = .ok (.goto 22, 3) := by decide +kernel
theorem dX8_note_104 : decode cX8_note 104 = .ok (.iload_n 2, 1) := by decide +kernel
theorem dX8_note_105 : decode cX8_note 105 = .ok (.iconst 4, 1) := by decide +kernel
theorem dX8_note_106 : decode cX8_note 106 = .ok (.if_icmp .ne 11, 3) := by decide +kernel
theorem dX8_note_109 : decode cX8_note 109 = .ok (.iload 4, 2) := by decide +kernel
theorem dX8_note_111 : decode cX8_note 111 = .ok (.invokestatic 166, 3) := by decide +kernel
theorem dX8_note_114 : decode cX8_note 114 = .ok (.goto 9, 3) := by decide +kernel
theorem dX8_note_117 : decode cX8_note 117 = .ok (.aload_n 0, 1) := by decide +kernel
theorem dX8_note_118 : decode cX8_note 118 = .ok (.getfield 56, 3) := by decide +kernel
theorem dX8_note_121 : decode cX8_note 121 = .ok (.iload_n 1, 1) := by decide +kernel
theorem dX8_note_122 : decode cX8_note 122 = .ok (.iaload, 1) := by decide +kernel
theorem dX8_note_123 : decode cX8_note 123 = .ok (.ireturn, 1) := by decide +kernel
theorem dX8_chord_0 : decode cX8_chord 0 = .ok (.aload_n 0, 1) := by decide +kernel
theorem dX8_chord_1 : decode cX8_chord 1 = .ok (.iload_n 1, 1) := by decide +kernel
theorem dX8_chord_2 : decode cX8_chord 2 = .ok (.invokevirtual 212, 3) := by decide +kernel
theorem dX8_chord_5 : decode cX8_chord 5 = .ok (.ifCond .ne 6, 3) := by decide +kernel
theorem dX8_chord_8 : decode cX8_chord 8 = .ok (.ldc 76, 2) := by decide +kernel
theorem dX8_chord_10 : decode cX8_chord 10 = .ok (.ireturn, 1) := by decide +kernel
theorem dX8_chord_11 : decode cX8_chord 11 = .ok (.iload_n 2, 1) := by decide +kernel
theorem dX8_chord_12 : decode cX8_chord 12 = .ok (.tableswitch 112 0 5 #[40, 53, 66, 72, 86, 99], 40) := by decide +kernel
theorem dX8_chord_52 : decode cX8_chord 52 = .ok (.aload_n 0, 1) := by decide +kernel
theorem dX8_chord_53 : decode cX8_chord 53 = .ok (.getfield 25, 3) := by decide +kernel
theorem dX8_chord_56 : decode cX8_chord 56 = .ok (.iconst 3, 1) := by decide +kernel
theorem dX8_chord_57 : decode cX8_chord 57 = .ok (.iconst 5, 1) := by decide +kernel
theorem dX8_chord_58 : decode cX8_chord 58 = .ok (.iload_n 1, 1) := by decide +kernel
theorem dX8_chord_59 : decode cX8_chord 59 = .ok (.imul, 1) := by decide +kernel
theorem dX8_chord_60 : decode cX8_chord 60 = .ok (.iadd, 1) := by decide +kernel
theorem dX8_chord_61 : decode cX8_chord 61 = .ok (.iconst 2, 1) := by decide +kernel
theorem dX8_chord_62 : decode cX8_chord 62 = .ok (.iadd, 1) := by decide +kernel
theorem dX8_chord_63 : decode cX8_chord 63 = .ok (.iaload, 1) := by decide +kernel
theorem dX8_chord_64 : decode cX8_chord 64 = .ok (.ireturn, 1) := by decide +kernel
theorem dX8_chord_65 : decode cX8_chord 65 = .ok (.aload_n 0, 1) := by decide +kernel
theorem dX8_chord_66 : decode cX8_chord 66 = .ok (.getfield 25, 3) := by decide +kernel
theorem dX8_chord_69 : decode cX8_chord 69 = .ok (.iconst 3, 1) := by decide +kernel
theorem dX8_chord_70 : decode cX8_chord 70 = .ok (.iconst 5, 1) := by decide +kernel
theorem dX8_chord_71 : decode cX8_chord 71 = .ok (.iload_n 1, 1) := by decide +kernel
theorem dX8_chord_72 : decode cX8_chord 72 = .ok (.imul, 1) := by decide +kernel
theorem dX8_chord_73 : decode cX8_chord 73 = .ok (.iadd, 1) := by decide +kernel
theorem dX8_chord_74 : decode cX8_chord 74 = .ok (.iconst 1, 1) := by decide +kernel
theorem dX8_chord_75 : decode cX8_chord 75 = .ok (.iadd, 1) := by decide +kernel
theorem dX8_chord_76 : decode cX8_chord 76 = .ok (.iaload, 1) := by decide +kernel
theorem dX8_chord_77 : decode cX8_chord 77 = .ok (.ireturn, 1) := by decide +kernel
theorem dX8_chord_78 : decode cX8_chord 78 = .ok (.aload_n 0, 1) := by decide +kernel
theorem dX8_chord_79 : decode cX8_chord 79 = .ok (.iload_n 1, 1) := by decide +kernel
theorem dX8_chord_80 : decode cX8_chord 80 = .ok (.invokevirtual 228, 3) := by decide +kernel
theorem dX8_chord_83 : decode cX8_chord 83 = .ok (.ireturn, 1) := by decide +kernel
theorem dX8_chord_84 : decode cX8_chord 84 = .ok (.aload_n 0, 1) := by decide +kernel
theorem dX8_chord_85 : decode cX8_chord 85 = .ok (.getfield 25, 3) := by decide +kernel
theorem dX8_chord_88 : decode cX8_chord 88 = .ok (.iload_n 1, 1) := by decide +kernel
theorem dX8_chord_89 : decode cX8_chord 89 = .ok (.aload_n 0, 1) := by decide +kernel
theorem dX8_chord_90 : decode cX8_chord 90 = .ok (.iload_n 1, 1) := by decide +kernel
theorem dX8_chord_91 : decode cX8_chord 91 = .ok (.invokevirtual 228, 3) := by decide +kernel
theorem dX8_chord_94 : decode cX8_chord 94 = .ok (.invokestatic 192, 3) := by decide +kernel
theorem dX8_chord_97 : decode cX8_chord 97 = .ok (.ireturn, 1) := by decide +kernel
theorem dX8_chord_98 : decode cX8_chord 98 = .ok (.aload_n 0, 1) := by decide +kernel
theorem dX8_chord_99 : decode cX8_chord 99 = .ok (.getfield 25, 3) := by decide +kernel
theorem dX8_chord_102 : decode cX8_chord 102 = .ok (.iconst 3, 1) := by decide +kernel
theorem dX8_chord_103 : decode cX8_chord 103 = .ok (.iconst 5, 1) := by decide +kernel
theorem dX8_chord_104 : decode cX8_chord 104 = .ok (.iload_n 1, 1) := by decide +kernel
theorem dX8_chord_105 : decode cX8_chord 105 = .ok (.imul, 1) := by decide +kernel
theorem dX8_chord_106 : decode cX8_chord 106 = .ok (.iadd, 1) := by decide +kernel
theorem dX8_chord_107 : decode cX8_chord 107 = .ok (.iconst 3, 1) := by decide +kernel
theorem dX8_chord_108 : decode cX8_chord 108 = .ok (.iadd, 1) := by decide +kernel
theorem dX8_chord_109 : decode cX8_chord 109 = .ok (.iaload, 1) := by decide +kernel
theorem dX8_chord_110 : decode cX8_chord 110 = .ok (.ireturn, 1) := by decide +kernel
theorem dX8_chord_111 : decode cX8_chord 111 = .ok (.aload_n 0, 1) := by decide +kernel
theorem dX8_chord_112 : decode cX8_chord 112 = .ok (.getfield 25, 3) := by decide +kernel
theorem dX8_chord_115 : decode cX8_chord 115 = .ok (.iconst 3, 1) := by decide +kernel
theorem dX8_chord_116 : decode cX8_chord 116 = .ok (.iconst 5, 1) := by decide +kernel
theorem dX8_chord_117 : decode cX8_chord 117 = .ok (.iload_n 1, 1) := by decide +kernel
theorem dX8_chord_118 : decode cX8_chord 118 = .ok (.imul, 1) := by decide +kernel
theorem dX8_chord_119 : decode cX8_chord 119 = .ok (.iadd, 1) := by decide +kernel
theorem dX8_chord_120 : decode cX8_chord 120 = .ok (.iconst 4, 1) := by decide +kernel
theorem dX8_chord_121 : decode cX8_chord 121 = .ok (.iadd, 1) := by decide +kernel
theorem dX8_chord_122 : decode cX8_chord 122 = .ok (.iaload, 1) := by decide +kernel
theorem dX8_chord_123 : decode cX8_chord 123 = .ok (.ireturn, 1) := by decide +kernel
theorem dX8_chord_124 : decode cX8_chord 124 = .ok (.ldc 76, 2) := by decide +kernel
theorem dX8_chord_126 : decode cX8_chord 126 = .ok (.ireturn, 1) := by decide +kernel
theorem dX8_costBy_0 : decode cX8_costBy 0 = .ok (.aload_n 0, 1) := by decide +kernel
theorem dX8_costBy_1 : decode cX8_costBy 1 = .ok (.getfield 25, 3) := by decide +kernel
theorem dX8_costBy_4 : decode cX8_costBy 4 = .ok (.iconst 0, 1) := by decide +kernel
theorem dX8_costBy_5 : decode cX8_costBy 5 = .ok (.aload_n 0, 1) := by decide +kernel
theorem dX8_costBy_6 : decode cX8_costBy 6 = .ok (.getfield 31, 3) := by decide +kernel
theorem dX8_costBy_9 : decode cX8_costBy 9 = .ok (.iconst 0, 1) := by decide +kernel
theorem dX8_costBy_10 : decode cX8_costBy 10 = .ok (.invokestatic 147, 3) := by decide +kernel
theorem dX8_costBy_13 : decode cX8_costBy 13 = .ok (.aload_n 0, 1) := by decide +kernel
theorem dX8_costBy_14 : decode cX8_costBy 14 = .ok (.getfield 31, 3) := by decide +kernel
theorem dX8_costBy_17 : decode cX8_costBy 17 = .ok (.iconst 0, 1) := by decide +kernel
theorem dX8_costBy_18 : decode cX8_costBy 18 = .ok (.iload_n 1, 1) := by decide +kernel
theorem dX8_costBy_19 : decode cX8_costBy 19 = .ok (.iastore, 1) := by decide +kernel
theorem dX8_costBy_20 : decode cX8_costBy 20 = .ok (.aload_n 0, 1) := by decide +kernel
theorem dX8_costBy_21 : decode cX8_costBy 21 = .ok (.aload_n 0, 1) := by decide +kernel
theorem dX8_costBy_22 : decode cX8_costBy 22 = .ok (.getfield 31, 3) := by decide +kernel
theorem dX8_costBy_25 : decode cX8_costBy 25 = .ok (.invokevirtual 202, 3) := by decide +kernel
theorem dX8_costBy_28 : decode cX8_costBy 28 = .ok (.aload_n 0, 1) := by decide +kernel
theorem dX8_costBy_29 : decode cX8_costBy 29 = .ok (.getfield 199, 3) := by decide +kernel
theorem dX8_costBy_32 : decode cX8_costBy 32 = .ok (.ireturn, 1) := by decide +kernel
theorem dX8_bestHeads_0 : decode cX8_bestHeads 0 = .ok (.iconst 0, 1) := by decide +kernel
theorem dX8_bestHeads_1 : decode cX8_bestHeads 1 = .ok (.istore_n 1, 1) := by decide +kernel
theorem dX8_bestHeads_2 : decode cX8_bestHeads 2 = .ok (.aload_n 0, 1) := by decide +kernel
theorem dX8_bestHeads_3 : decode cX8_bestHeads 3 = .ok (.iconst 0, 1) := by decide +kernel
theorem dX8_bestHeads_4 : decode cX8_bestHeads 4 = .ok (.invokevirtual 231, 3) := by decide +kernel
theorem dX8_bestHeads_7 : decode cX8_bestHeads 7 = .ok (.istore_n 2, 1) := by decide +kernel
theorem dX8_bestHeads_8 : decode cX8_bestHeads 8 = .ok (.iconst 1, 1) := by decide +kernel
theorem dX8_bestHeads_9 : decode cX8_bestHeads 9 = .ok (.istore_n 3, 1) := by decide +kernel
theorem dX8_bestHeads_10 : decode cX8_bestHeads 10 = .ok (.iload_n 3, 1) := by decide +kernel
theorem dX8_bestHeads_11 : decode cX8_bestHeads 11 = .ok (.bipush 15, 2) := by decide +kernel
theorem dX8_bestHeads_13 : decode cX8_bestHeads 13 = .ok (.if_icmp .ge 41, 3) := by decide +kernel
theorem dX8_bestHeads_16 : decode cX8_bestHeads 16 = .ok (.aload_n 0, 1) := by decide +kernel
theorem dX8_bestHeads_17 : decode cX8_bestHeads 17 = .ok (.iload_n 3, 1) := by decide +kernel
theorem dX8_bestHeads_18 : decode cX8_bestHeads 18 = .ok (.invokevirtual 231, 3) := by decide +kernel
theorem dX8_bestHeads_21 : decode cX8_bestHeads 21 = .ok (.istore 4, 2) := by decide +kernel
theorem dX8_bestHeads_23 : decode cX8_bestHeads 23 = .ok (.iload 4, 2) := by decide +kernel
theorem dX8_bestHeads_25 : decode cX8_bestHeads 25 = .ok (.iload_n 2, 1) := by decide +kernel
theorem dX8_bestHeads_26 : decode cX8_bestHeads 26 = .ok (.if_icmp .ge 7, 3) := by decide +kernel
theorem dX8_bestHeads_29 : decode cX8_bestHeads 29 = .ok (.iload_n 3, 1) := by decide +kernel
theorem dX8_bestHeads_30 : decode cX8_bestHeads 30 = .ok (.goto 4, 3) := by decide +kernel
theorem dX8_bestHeads_33 : decode cX8_bestHeads 33 = .ok (.iload_n 1, 1) := by decide +kernel
theorem dX8_bestHeads_34 : decode cX8_bestHeads 34 = .ok (.istore_n 1, 1) := by decide +kernel
theorem dX8_bestHeads_35 : decode cX8_bestHeads 35 = .ok (.iload 4, 2) := by decide +kernel
theorem dX8_bestHeads_37 : decode cX8_bestHeads 37 = .ok (.iload_n 2, 1) := by decide +kernel
theorem dX8_bestHeads_38 : decode cX8_bestHeads 38 = .ok (.if_icmp .ge 8, 3) := by decide +kernel
theorem dX8_bestHeads_41 : decode cX8_bestHeads 41 = .ok (.iload 4, 2) := by decide +kernel
theorem dX8_bestHeads_43 : decode cX8_bestHeads 43 = .ok (.goto 4, 3) := by decide +kernel
theorem dX8_bestHeads_46 : decode cX8_bestHeads 46 = .ok (.iload_n 2, 1) := by decide +kernel
theorem dX8_bestHeads_47 : decode cX8_bestHeads 47 = .ok (.istore_n 2, 1) := by decide +kernel
theorem dX8_bestHeads_48 : decode cX8_bestHeads 48 = .ok (.iinc 3 1, 3) := by decide +kernel
theorem dX8_bestHeads_51 : decode cX8_bestHeads 51 = .ok (.goto (-41), 3) := by decide +kernel
theorem dX8_bestHeads_54 : decode cX8_bestHeads 54 = .ok (.iload_n 1, 1) := by decide +kernel
theorem dX8_bestHeads_55 : decode cX8_bestHeads 55 = .ok (.ireturn, 1) := by decide +kernel
theorem dX8_plainCost_0 : decode cX8_plainCost 0 = .ok (.iconst 0, 1) := by decide +kernel
theorem dX8_plainCost_1 : decode cX8_plainCost 1 = .ok (.istore_n 2, 1) := by decide +kernel
theorem dX8_plainCost_2 : decode cX8_plainCost 2 = .ok (.iconst 0, 1) := by decide +kernel
theorem dX8_plainCost_3 : decode cX8_plainCost 3 = .ok (.istore_n 3, 1) := by decide +kernel
theorem dX8_plainCost_4 : decode cX8_plainCost 4 = .ok (.iload_n 3, 1) := by decide +kernel
theorem dX8_plainCost_5 : decode cX8_plainCost 5 = .ok (.aload_n 0, 1) := by decide +kernel
theorem dX8_plainCost_6 : decode cX8_plainCost 6 = .ok (.getfield 25, 3) := by decide +kernel
theorem dX8_plainCost_9 : decode cX8_plainCost 9 = .ok (.iconst 1, 1) := by decide +kernel
theorem dX8_plainCost_10 : decode cX8_plainCost 10 = .ok (.iaload, 1) := by decide +kernel
theorem dX8_plainCost_11 : decode cX8_plainCost 11 = .ok (.if_icmp .ge 21, 3) := by decide +kernel
theorem dX8_plainCost_14 : decode cX8_plainCost 14 = .ok (.iload_n 2, 1) := by decide +kernel
theorem dX8_plainCost_15 : decode cX8_plainCost 15 = .ok (.aload_n 0, 1) := by decide +kernel
theorem dX8_plainCost_16 : decode cX8_plainCost 16 = .ok (.getfield 25, 3) := by decide +kernel
theorem dX8_plainCost_19 : decode cX8_plainCost 19 = .ok (.iload_n 3, 1) := by decide +kernel
theorem dX8_plainCost_20 : decode cX8_plainCost 20 = .ok (.iload_n 1, 1) := by decide +kernel
theorem dX8_plainCost_21 : decode cX8_plainCost 21 = .ok (.invokestatic 192, 3) := by decide +kernel
theorem dX8_plainCost_24 : decode cX8_plainCost 24 = .ok (.iadd, 1) := by decide +kernel
theorem dX8_plainCost_25 : decode cX8_plainCost 25 = .ok (.istore_n 2, 1) := by decide +kernel
theorem dX8_plainCost_26 : decode cX8_plainCost 26 = .ok (.iinc 3 1, 3) := by decide +kernel
theorem dX8_plainCost_29 : decode cX8_plainCost 29 = .ok (.goto (-25), 3) := by decide +kernel
theorem dX8_plainCost_32 : decode cX8_plainCost 32 = .ok (.iload_n 2, 1) := by decide +kernel
theorem dX8_plainCost_33 : decode cX8_plainCost 33 = .ok (.ireturn, 1) := by decide +kernel
theorem dX8_plainWindow_0 : decode cX8_plainWindow 0 = .ok (.bipush (-15), 2) := by decide +kernel
theorem dX8_plainWindow_2 : decode cX8_plainWindow 2 = .ok (.istore_n 1, 1) := by decide +kernel
theorem dX8_plainWindow_3 : decode cX8_plainWindow 3 = .ok (.bipush (-15), 2) := by decide +kernel
theorem dX8_plainWindow_5 : decode cX8_plainWindow 5 = .ok (.istore_n 2, 1) := by decide +kernel
theorem dX8_plainWindow_6 : decode cX8_plainWindow 6 = .ok (.iload_n 2, 1) := by decide +kernel
theorem dX8_plainWindow_7 : decode cX8_plainWindow 7 = .ok (.bipush 9, 2) := by decide +kernel
theorem dX8_plainWindow_9 : decode cX8_plainWindow 9 = .ok (.if_icmp .ge 28, 3) := by decide +kernel
theorem dX8_plainWindow_12 : decode cX8_plainWindow 12 = .ok (.aload_n 0, 1) := by decide +kernel
theorem dX8_plainWindow_13 : decode cX8_plainWindow 13 = .ok (.iload_n 2, 1) := by decide +kernel
theorem dX8_plainWindow_14 : decode cX8_plainWindow 14 = .ok (.invokevirtual 234, 3) := by decide +kernel
theorem dX8_plainWindow_17 : decode cX8_plainWindow 17 = .ok (.aload_n 0, 1) := by decide +kernel
theorem dX8_plainWindow_18 : decode cX8_plainWindow 18 = .ok (.iload_n 1, 1) := by decide +kernel
theorem dX8_plainWindow_19 : decode cX8_plainWindow 19 = .ok (.invokevirtual 234, 3) := by decide +kernel
theorem dX8_plainWindow_22 : decode cX8_plainWindow 22 = .ok (.if_icmp .ge 7, 3) := by decide +kernel
theorem dX8_plainWindow_25 : decode cX8_plainWindow 25 = .ok (.iload_n 2, 1) := by decide +kernel
theorem dX8_plainWindow_26 : decode cX8_plainWindow 26 = .ok (.goto 4, 3) := by decide +kernel
theorem dX8_plainWindow_29 : decode cX8_plainWindow 29 = .ok (.iload_n 1, 1) := by decide +kernel
theorem dX8_plainWindow_30 : decode cX8_plainWindow 30 = .ok (.istore_n 1, 1) := by decide +kernel
theorem dX8_plainWindow_31 : decode cX8_plainWindow 31 = .ok (.iinc 2 1, 3) := by decide +kernel
theorem dX8_plainWindow_34 : decode cX8_plainWindow 34 = .ok (.goto (-28), 3) := by decide +kernel
theorem dX8_plainWindow_37 : decode cX8_plainWindow 37 = .ok (.iload_n 1, 1) := by decide +kernel
theorem dX8_plainWindow_38 : decode cX8_plainWindow 38 = .ok (.ireturn, 1) := by decide +kernel
theorem dX8_whole_0 : decode cX8_whole 0 = .ok (.aload_n 0, 1) := by decide +kernel
theorem dX8_whole_1 : decode cX8_whole 1 = .ok (.invokevirtual 215, 3) := by decide +kernel
theorem dX8_whole_4 : decode cX8_whole 4 = .ok (.ifCond .ne 6, 3) := by decide +kernel
theorem dX8_whole_7 : decode cX8_whole 7 = .ok (.ldc 208, 2) := by decide +kernel
theorem dX8_whole_9 : decode cX8_whole 9 = .ok (.ireturn, 1) := by decide +kernel
theorem dX8_whole_10 : decode cX8_whole 10 = .ok (.iload_n 1, 1) := by decide +kernel
theorem dX8_whole_11 : decode cX8_whole 11 = .ok (.tableswitch 96 0 6 #[41, 54, 59, 68, 73, 82, 91], 41) := by decide +kernel
theorem dX8_whole_52 : decode cX8_whole 52 = .ok (.aload_n 0, 1) := by decide +kernel
theorem dX8_whole_53 : decode cX8_whole 53 = .ok (.aload_n 0, 1) := by decide +kernel
theorem dX8_whole_54 : decode cX8_whole 54 = .ok (.getfield 25, 3) := by decide +kernel
theorem dX8_whole_57 : decode cX8_whole 57 = .ok (.invokevirtual 202, 3) := by decide +kernel
theorem dX8_whole_60 : decode cX8_whole 60 = .ok (.aload_n 0, 1) := by decide +kernel
theorem dX8_whole_61 : decode cX8_whole 61 = .ok (.getfield 199, 3) := by decide +kernel
theorem dX8_whole_64 : decode cX8_whole 64 = .ok (.ireturn, 1) := by decide +kernel
theorem dX8_whole_65 : decode cX8_whole 65 = .ok (.aload_n 0, 1) := by decide +kernel
theorem dX8_whole_66 : decode cX8_whole 66 = .ok (.invokevirtual 237, 3) := by decide +kernel
theorem dX8_whole_69 : decode cX8_whole 69 = .ok (.ireturn, 1) := by decide +kernel
theorem dX8_whole_70 : decode cX8_whole 70 = .ok (.aload_n 0, 1) := by decide +kernel
theorem dX8_whole_71 : decode cX8_whole 71 = .ok (.aload_n 0, 1) := by decide +kernel
theorem dX8_whole_72 : decode cX8_whole 72 = .ok (.getfield 25, 3) := by decide +kernel
theorem dX8_whole_75 : decode cX8_whole 75 = .ok (.invokevirtual 224, 3) := by decide +kernel
theorem dX8_whole_78 : decode cX8_whole 78 = .ok (.ireturn, 1) := by decide +kernel
theorem dX8_whole_79 : decode cX8_whole 79 = .ok (.aload_n 0, 1) := by decide +kernel
theorem dX8_whole_80 : decode cX8_whole 80 = .ok (.invokevirtual 241, 3) := by decide +kernel
theorem dX8_whole_83 : decode cX8_whole 83 = .ok (.ireturn, 1) := by decide +kernel
theorem dX8_whole_84 : decode cX8_whole 84 = .ok (.aload_n 0, 1) := by decide +kernel
theorem dX8_whole_85 : decode cX8_whole 85 = .ok (.aload_n 0, 1) := by decide +kernel
theorem dX8_whole_86 : decode cX8_whole 86 = .ok (.invokevirtual 241, 3) := by decide +kernel
theorem dX8_whole_89 : decode cX8_whole 89 = .ok (.invokevirtual 231, 3) := by decide +kernel
theorem dX8_whole_92 : decode cX8_whole 92 = .ok (.ireturn, 1) := by decide +kernel
theorem dX8_whole_93 : decode cX8_whole 93 = .ok (.aload_n 0, 1) := by decide +kernel
theorem dX8_whole_94 : decode cX8_whole 94 = .ok (.aload_n 0, 1) := by decide +kernel
theorem dX8_whole_95 : decode cX8_whole 95 = .ok (.invokevirtual 244, 3) := by decide +kernel
theorem dX8_whole_98 : decode cX8_whole 98 = .ok (.invokevirtual 234, 3) := by decide +kernel
theorem dX8_whole_101 : decode cX8_whole 101 = .ok (.ireturn, 1) := by decide +kernel
theorem dX8_whole_102 : decode cX8_whole 102 = .ok (.aload_n 0, 1) := by decide +kernel
theorem dX8_whole_103 : decode cX8_whole 103 = .ok (.invokevirtual 244, 3) := by decide +kernel
theorem dX8_whole_106 : decode cX8_whole 106 = .ok (.ireturn, 1) := by decide +kernel
theorem dX8_whole_107 : decode cX8_whole 107 = .ok (.ldc 76, 2) := by decide +kernel
theorem dX8_whole_109 : decode cX8_whole 109 = .ok (.ireturn, 1) := by decide +kernel
theorem dX8_price_0 : decode cX8_price 0 = .ok (.aload_n 0, 1) := by decide +kernel
theorem dX8_price_1 : decode cX8_price 1 = .ok (.iload_n 1, 1) := by decide +kernel
theorem dX8_price_2 : decode cX8_price 2 = .ok (.invokevirtual 212, 3) := by decide +kernel
theorem dX8_price_5 : decode cX8_price 5 = .ok (.ifCond .eq 22, 3) := by decide +kernel
theorem dX8_price_8 : decode cX8_price 8 = .ok (.iload_n 2, 1) := by decide +kernel
theorem dX8_price_9 : decode cX8_price 9 = .ok (.invokestatic 218, 3) := by decide +kernel
theorem dX8_price_12 : decode cX8_price 12 = .ok (.ifCond .eq 15, 3) := by decide +kernel
theorem dX8_price_15 : decode cX8_price 15 = .ok (.aload_n 0, 1) := by decide +kernel
theorem dX8_price_16 : decode cX8_price 16 = .ok (.getfield 25, 3) := by decide +kernel
theorem dX8_price_19 : decode cX8_price 19 = .ok (.iload_n 1, 1) := by decide +kernel
theorem dX8_price_20 : decode cX8_price 20 = .ok (.iload_n 2, 1) := by decide +kernel
theorem dX8_price_21 : decode cX8_price 21 = .ok (.invokestatic 192, 3) := by decide +kernel
theorem dX8_price_24 : decode cX8_price 24 = .ok (.goto 5, 3) := by decide +kernel
theorem dX8_price_27 : decode cX8_price 27 = .ok (.ldc 76, 2) := by decide +kernel
theorem dX8_price_29 : decode cX8_price 29 = .ok (.ireturn, 1) := by decide +kernel
theorem dX8_cost_0 : decode cX8_cost 0 = .ok (.aload_n 0, 1) := by decide +kernel
theorem dX8_cost_1 : decode cX8_cost 1 = .ok (.invokevirtual 215, 3) := by decide +kernel
theorem dX8_cost_4 : decode cX8_cost 4 = .ok (.ifCond .ne 6, 3) := by decide +kernel
theorem dX8_cost_7 : decode cX8_cost 7 = .ok (.ldc 208, 2) := by decide +kernel
theorem dX8_cost_9 : decode cX8_cost 9 = .ok (.ireturn, 1) := by decide +kernel
theorem dX8_cost_10 : decode cX8_cost 10 = .ok (.iload_n 1, 1) := by decide +kernel
theorem dX8_cost_11 : decode cX8_cost 11 = .ok (.invokestatic 72, 3) := by decide +kernel
theorem dX8_cost_14 : decode cX8_cost 14 = .ok (.ifCond .ne 6, 3) := by decide +kernel
theorem dX8_cost_17 : decode cX8_cost 17 = .ok (.ldc 76, 2) := by decide +kernel
theorem dX8_cost_19 : decode cX8_cost 19 = .ok (.ireturn, 1) := by decide +kernel
theorem dX8_cost_20 : decode cX8_cost 20 = .ok (.aload_n 0, 1) := by decide +kernel
theorem dX8_cost_21 : decode cX8_cost 21 = .ok (.iload_n 1, 1) := by decide +kernel
theorem dX8_cost_22 : decode cX8_cost 22 = .ok (.invokevirtual 84, 3) := by decide +kernel
theorem dX8_cost_25 : decode cX8_cost 25 = .ok (.ifCond .eq 9, 3) := by decide +kernel
theorem dX8_cost_28 : decode cX8_cost 28 = .ok (.aload_n 0, 1) := by decide +kernel
theorem dX8_cost_29 : decode cX8_cost 29 = .ok (.iconst 1, 1) := by decide +kernel
theorem dX8_cost_30 : decode cX8_cost 30 = .ok (.invokevirtual 77, 3) := by decide +kernel
theorem dX8_cost_33 : decode cX8_cost 33 = .ok (.ireturn, 1) := by decide +kernel
theorem dX8_cost_34 : decode cX8_cost 34 = .ok (.aload_n 0, 1) := by decide +kernel
theorem dX8_cost_35 : decode cX8_cost 35 = .ok (.iload_n 1, 1) := by decide +kernel
theorem dX8_cost_36 : decode cX8_cost 36 = .ok (.iload_n 2, 1) := by decide +kernel
theorem dX8_cost_37 : decode cX8_cost 37 = .ok (.aload_n 0, 1) := by decide +kernel
theorem dX8_cost_38 : decode cX8_cost 38 = .ok (.getfield 25, 3) := by decide +kernel
theorem dX8_cost_41 : decode cX8_cost 41 = .ok (.iconst 1, 1) := by decide +kernel
theorem dX8_cost_42 : decode cX8_cost 42 = .ok (.iaload, 1) := by decide +kernel
theorem dX8_cost_43 : decode cX8_cost 43 = .ok (.invokevirtual 91, 3) := by decide +kernel
theorem dX8_cost_46 : decode cX8_cost 46 = .ok (.ifCond .ne 9, 3) := by decide +kernel
theorem dX8_cost_49 : decode cX8_cost 49 = .ok (.aload_n 0, 1) := by decide +kernel
theorem dX8_cost_50 : decode cX8_cost 50 = .ok (.iconst 2, 1) := by decide +kernel
theorem dX8_cost_51 : decode cX8_cost 51 = .ok (.invokevirtual 77, 3) := by decide +kernel
theorem dX8_cost_54 : decode cX8_cost 54 = .ok (.ireturn, 1) := by decide +kernel
theorem dX8_cost_55 : decode cX8_cost 55 = .ok (.bipush 40, 2) := by decide +kernel
theorem dX8_cost_57 : decode cX8_cost 57 = .ok (.iload_n 1, 1) := by decide +kernel
theorem dX8_cost_58 : decode cX8_cost 58 = .ok (.imul, 1) := by decide +kernel
theorem dX8_cost_59 : decode cX8_cost 59 = .ok (.iload_n 2, 1) := by decide +kernel
theorem dX8_cost_60 : decode cX8_cost 60 = .ok (.iadd, 1) := by decide +kernel
theorem dX8_cost_61 : decode cX8_cost 61 = .ok (.istore_n 3, 1) := by decide +kernel
theorem dX8_cost_62 : decode cX8_cost 62 = .ok (.iconst 0, 1) := by decide +kernel
theorem dX8_cost_63 : decode cX8_cost 63 = .ok (.istore 4, 2) := by decide +kernel
theorem dX8_cost_65 : decode cX8_cost 65 = .ok (.iconst 0, 1) := by decide +kernel
theorem dX8_cost_66 : decode cX8_cost 66 = .ok (.istore 5, 2) := by decide +kernel
theorem dX8_cost_68 : decode cX8_cost 68 = .ok (.iload 5, 2) := by decide +kernel
theorem dX8_cost_70 : decode cX8_cost 70 = .ok (.aload_n 0, 1) := by decide +kernel
theorem dX8_cost_71 : decode cX8_cost 71 = .ok (.getfield 25, 3) := by decide +kernel
theorem dX8_cost_74 : decode cX8_cost 74 = .ok (.iconst 1, 1) := by decide +kernel
theorem dX8_cost_75 : decode cX8_cost 75 = .ok (.iaload, 1) := by decide +kernel
theorem dX8_cost_76 : decode cX8_cost 76 = .ok (.if_icmp .ge 102, 3) := by decide +kernel
theorem dX8_cost_79 : decode cX8_cost 79 = .ok (.aload_n 0, 1) := by decide +kernel
theorem dX8_cost_80 : decode cX8_cost 80 = .ok (.getfield 16, 3) := by decide +kernel
theorem dX8_cost_83 : decode cX8_cost 83 = .ok (.iload_n 3, 1) := by decide +kernel
theorem dX8_cost_84 : decode cX8_cost 84 = .ok (.iload 5, 2) := by decide +kernel
theorem dX8_cost_86 : decode cX8_cost 86 = .ok (.iadd, 1) := by decide +kernel
theorem dX8_cost_87 : decode cX8_cost 87 = .ok (.iaload, 1) := by decide +kernel
theorem dX8_cost_88 : decode cX8_cost 88 = .ok (.istore 6, 2) := by decide +kernel
theorem dX8_cost_90 : decode cX8_cost 90 = .ok (.iload 5, 2) := by decide +kernel
theorem dX8_cost_92 : decode cX8_cost 92 = .ok (.ifCond .eq 11, 3) := by decide +kernel
theorem dX8_cost_95 : decode cX8_cost 95 = .ok (.iload 6, 2) := by decide +kernel
theorem dX8_cost_97 : decode cX8_cost 97 = .ok (.invokestatic 218, 3) := by decide +kernel
theorem dX8_cost_100 : decode cX8_cost 100 = .ok (.ifCond .ne 7, 3) := by decide +kernel
theorem dX8_cost_103 : decode cX8_cost 103 = .ok (.iconst 0, 1) := by decide +kernel
theorem dX8_cost_104 : decode cX8_cost 104 = .ok (.goto 25, 3) := by decide +kernel
theorem dX8_cost_107 : decode cX8_cost 107 = .ok (.aload_n 0, 1) := by decide +kernel
theorem dX8_cost_108 : decode cX8_cost 108 = .ok (.getfield 25, 3) := by decide +kernel
theorem dX8_cost_111 : decode cX8_cost 111 = .ok (.iload 5, 2) := by decide +kernel
theorem dX8_cost_113 : decode cX8_cost 113 = .ok (.aload_n 0, 1) := by decide +kernel
theorem dX8_cost_114 : decode cX8_cost 114 = .ok (.getfield 16, 3) := by decide +kernel
theorem dX8_cost_117 : decode cX8_cost 117 = .ok (.iload_n 3, 1) := by decide +kernel
theorem dX8_cost_118 : decode cX8_cost 118 = .ok (.iload 5, 2) := by decide +kernel
theorem dX8_cost_120 : decode cX8_cost 120 = .ok (.iadd, 1) := by decide +kernel
theorem dX8_cost_121 : decode cX8_cost 121 = .ok (.iconst 1, 1) := by decide +kernel
theorem dX8_cost_122 : decode cX8_cost 122 = .ok (.isub, 1) := by decide +kernel
theorem dX8_cost_123 : decode cX8_cost 123 = .ok (.iaload, 1) := by decide +kernel
theorem dX8_cost_124 : decode cX8_cost 124 = .ok (.iload 6, 2) := by decide +kernel
theorem dX8_cost_126 : decode cX8_cost 126 = .ok (.invokestatic 188, 3) := by decide +kernel
theorem dX8_cost_129 : decode cX8_cost 129 = .ok (.istore 7, 2) := by decide +kernel
theorem dX8_cost_131 : decode cX8_cost 131 = .ok (.iload 6, 2) := by decide +kernel
theorem dX8_cost_133 : decode cX8_cost 133 = .ok (.invokestatic 218, 3) := by decide +kernel
theorem dX8_cost_136 : decode cX8_cost 136 = .ok (.ifCond .eq 10, 3) := by decide +kernel
theorem dX8_cost_139 : decode cX8_cost 139 = .ok (.iload 7, 2) := by decide +kernel
theorem dX8_cost_141 : decode cX8_cost 141 = .ok (.ldc 62, 2) := by decide +kernel
theorem dX8_cost_143 : decode cX8_cost 143 = .ok (.if_icmp .ne 10, 3) := by decide +kernel
theorem dX8_cost_146 : decode cX8_cost 146 = .ok (.aload_n 0, 1) := by decide +kernel
theorem dX8_cost_147 : decode cX8_cost 147 = .ok (.ldc 62, 2) := by decide +kernel
theorem dX8_cost_149 : decode cX8_cost 149 = .ok (.invokevirtual 81, 3) := by decide +kernel
theorem dX8_cost_152 : decode cX8_cost 152 = .ok (.ireturn, 1) := by decide +kernel
theorem dX8_cost_153 : decode cX8_cost 153 = .ok (.iload 4, 2) := by decide +kernel
theorem dX8_cost_155 : decode cX8_cost 155 = .ok (.iload 7, 2) := by decide +kernel
theorem dX8_cost_157 : decode cX8_cost 157 = .ok (.aload_n 0, 1) := by decide +kernel
theorem dX8_cost_158 : decode cX8_cost 158 = .ok (.getfield 25, 3) := by decide +kernel
theorem dX8_cost_161 : decode cX8_cost 161 = .ok (.iload 5, 2) := by decide +kernel
theorem dX8_cost_163 : decode cX8_cost 163 = .ok (.iload 6, 2) := by decide +kernel
theorem dX8_cost_165 : decode cX8_cost 165 = .ok (.invokestatic 192, 3) := by decide +kernel
theorem dX8_cost_168 : decode cX8_cost 168 = .ok (.iadd, 1) := by decide +kernel
theorem dX8_cost_169 : decode cX8_cost 169 = .ok (.iadd, 1) := by decide +kernel
theorem dX8_cost_170 : decode cX8_cost 170 = .ok (.istore 4, 2) := by decide +kernel
theorem dX8_cost_172 : decode cX8_cost 172 = .ok (.iinc 5 1, 3) := by decide +kernel
theorem dX8_cost_175 : decode cX8_cost 175 = .ok (.goto (-107), 3) := by decide +kernel
theorem dX8_cost_178 : decode cX8_cost 178 = .ok (.aload_n 0, 1) := by decide +kernel
theorem dX8_cost_179 : decode cX8_cost 179 = .ok (.iload 4, 2) := by decide +kernel
theorem dX8_cost_181 : decode cX8_cost 181 = .ok (.invokevirtual 81, 3) := by decide +kernel
theorem dX8_cost_184 : decode cX8_cost 184 = .ok (.ireturn, 1) := by decide +kernel
theorem dX8_isRead_0 : decode cX8_isRead 0 = .ok (.aload_n 0, 1) := by decide +kernel
theorem dX8_isRead_1 : decode cX8_isRead 1 = .ok (.getfield 25, 3) := by decide +kernel
theorem dX8_isRead_4 : decode cX8_isRead 4 = .ok (.iconst 0, 1) := by decide +kernel
theorem dX8_isRead_5 : decode cX8_isRead 5 = .ok (.aload_n 0, 1) := by decide +kernel
theorem dX8_isRead_6 : decode cX8_isRead 6 = .ok (.getfield 31, 3) := by decide +kernel
theorem dX8_isRead_9 : decode cX8_isRead 9 = .ok (.iconst 0, 1) := by decide +kernel
theorem dX8_isRead_10 : decode cX8_isRead 10 = .ok (.invokestatic 147, 3) := by decide +kernel
theorem dX8_isRead_13 : decode cX8_isRead 13 = .ok (.aload_n 0, 1) := by decide +kernel
theorem dX8_isRead_14 : decode cX8_isRead 14 = .ok (.getfield 31, 3) := by decide +kernel
theorem dX8_isRead_17 : decode cX8_isRead 17 = .ok (.iload_n 3, 1) := by decide +kernel
theorem dX8_isRead_18 : decode cX8_isRead 18 = .ok (.iload 4, 2) := by decide +kernel
theorem dX8_isRead_20 : decode cX8_isRead 20 = .ok (.iastore, 1) := by decide +kernel
theorem dX8_isRead_21 : decode cX8_isRead 21 = .ok (.aload_n 0, 1) := by decide +kernel
theorem dX8_isRead_22 : decode cX8_isRead 22 = .ok (.aload_n 0, 1) := by decide +kernel
theorem dX8_isRead_23 : decode cX8_isRead 23 = .ok (.getfield 31, 3) := by decide +kernel
theorem dX8_isRead_26 : decode cX8_isRead 26 = .ok (.invokevirtual 202, 3) := by decide +kernel
theorem dX8_isRead_29 : decode cX8_isRead 29 = .ok (.iconst 1, 1) := by decide +kernel
theorem dX8_isRead_30 : decode cX8_isRead 30 = .ok (.istore 5, 2) := by decide +kernel
theorem dX8_isRead_32 : decode cX8_isRead 32 = .ok (.iconst 0, 1) := by decide +kernel
theorem dX8_isRead_33 : decode cX8_isRead 33 = .ok (.istore 6, 2) := by decide +kernel
theorem dX8_isRead_35 : decode cX8_isRead 35 = .ok (.iload 6, 2) := by decide +kernel
theorem dX8_isRead_37 : decode cX8_isRead 37 = .ok (.iload_n 2, 1) := by decide +kernel
theorem dX8_isRead_38 : decode cX8_isRead 38 = .ok (.if_icmp .ge 66, 3) := by decide +kernel
theorem dX8_isRead_41 : decode cX8_isRead 41 = .ok (.iload 5, 2) := by decide +kernel
theorem dX8_isRead_43 : decode cX8_isRead 43 = .ok (.ifCond .eq 52, 3) := by decide +kernel
theorem dX8_isRead_46 : decode cX8_isRead 46 = .ok (.bipush (-15), 2) := by decide +kernel
theorem dX8_isRead_48 : decode cX8_isRead 48 = .ok (.aload_n 0, 1) := by decide +kernel
theorem dX8_isRead_49 : decode cX8_isRead 49 = .ok (.getfield 50, 3) := by decide +kernel
theorem dX8_isRead_52 : decode cX8_isRead 52 = .ok (.aload_n 0, 1) := by decide +kernel
theorem dX8_isRead_53 : decode cX8_isRead 53 = .ok (.iload 6, 2) := by decide +kernel
theorem dX8_isRead_55 : decode cX8_isRead 55 = .ok (.invokevirtual 221, 3) := by decide +kernel
theorem dX8_isRead_58 : decode cX8_isRead 58 = .ok (.iaload, 1) := by decide +kernel
theorem dX8_isRead_59 : decode cX8_isRead 59 = .ok (.iadd, 1) := by decide +kernel
theorem dX8_isRead_60 : decode cX8_isRead 60 = .ok (.aload_n 0, 1) := by decide +kernel
theorem dX8_isRead_61 : decode cX8_isRead 61 = .ok (.getfield 31, 3) := by decide +kernel
theorem dX8_isRead_64 : decode cX8_isRead 64 = .ok (.bipush 53, 2) := by decide +kernel
theorem dX8_isRead_66 : decode cX8_isRead 66 = .ok (.iload 6, 2) := by decide +kernel
theorem dX8_isRead_68 : decode cX8_isRead 68 = .ok (.iadd, 1) := by decide +kernel
theorem dX8_isRead_69 : decode cX8_isRead 69 = .ok (.iaload, 1) := by decide +kernel
theorem dX8_isRead_70 : decode cX8_isRead 70 = .ok (.invokestatic 163, 3) := by decide +kernel
theorem dX8_isRead_73 : decode cX8_isRead 73 = .ok (.invokestatic 157, 3) := by decide +kernel
theorem dX8_isRead_76 : decode cX8_isRead 76 = .ok (.aload_n 0, 1) := by decide +kernel
theorem dX8_isRead_77 : decode cX8_isRead 77 = .ok (.getfield 16, 3) := by decide +kernel
theorem dX8_isRead_80 : decode cX8_isRead 80 = .ok (.bipush 40, 2) := by decide +kernel
theorem dX8_isRead_82 : decode cX8_isRead 82 = .ok (.iload_n 1, 1) := by decide +kernel
theorem dX8_isRead_83 : decode cX8_isRead 83 = .ok (.imul, 1) := by decide +kernel
theorem dX8_isRead_84 : decode cX8_isRead 84 = .ok (.iload 6, 2) := by decide +kernel
theorem dX8_isRead_86 : decode cX8_isRead 86 = .ok (.iadd, 1) := by decide +kernel
theorem dX8_isRead_87 : decode cX8_isRead 87 = .ok (.iaload, 1) := by decide +kernel
theorem dX8_isRead_88 : decode cX8_isRead 88 = .ok (.if_icmp .ne 7, 3) := by decide +kernel
theorem dX8_isRead_91 : decode cX8_isRead 91 = .ok (.iconst 1, 1) := by decide +kernel
theorem dX8_isRead_92 : decode cX8_isRead 92 = .ok (.goto 4, 3) := by decide +kernel
theorem dX8_isRead_95 : decode cX8_isRead 95 = .ok (.iconst 0, 1) := by decide +kernel
theorem dX8_isRead_96 : decode cX8_isRead 96 = .ok (.istore 5, 2) := by decide +kernel
theorem dX8_isRead_98 : decode cX8_isRead 98 = .ok (.iinc 6 1, 3) := by decide +kernel
theorem dX8_isRead_101 : decode cX8_isRead 101 = .ok (.goto (-66), 3) := by decide +kernel
theorem dX8_isRead_104 : decode cX8_isRead 104 = .ok (.iload 5, 2) := by decide +kernel
theorem dX8_isRead_106 : decode cX8_isRead 106 = .ok (.ireturn, 1) := by decide +kernel
theorem dX8_fits_0 : decode cX8_fits 0 = .ok (.aload_n 0, 1) := by decide +kernel
theorem dX8_fits_1 : decode cX8_fits 1 = .ok (.iload_n 1, 1) := by decide +kernel
theorem dX8_fits_2 : decode cX8_fits 2 = .ok (.invokevirtual 212, 3) := by decide +kernel
theorem dX8_fits_5 : decode cX8_fits 5 = .ok (.ifCond .eq 34, 3) := by decide +kernel
theorem dX8_fits_8 : decode cX8_fits 8 = .ok (.iload_n 2, 1) := by decide +kernel
theorem dX8_fits_9 : decode cX8_fits 9 = .ok (.invokestatic 72, 3) := by decide +kernel
theorem dX8_fits_12 : decode cX8_fits 12 = .ok (.ifCond .eq 27, 3) := by decide +kernel
theorem dX8_fits_15 : decode cX8_fits 15 = .ok (.iload_n 3, 1) := by decide +kernel
theorem dX8_fits_16 : decode cX8_fits 16 = .ok (.iconst 1, 1) := by decide +kernel
theorem dX8_fits_17 : decode cX8_fits 17 = .ok (.aload_n 0, 1) := by decide +kernel
theorem dX8_fits_18 : decode cX8_fits 18 = .ok (.getfield 25, 3) := by decide +kernel
theorem dX8_fits_21 : decode cX8_fits 21 = .ok (.iconst 2, 1) := by decide +kernel
theorem dX8_fits_22 : decode cX8_fits 22 = .ok (.iaload, 1) := by decide +kernel
theorem dX8_fits_23 : decode cX8_fits 23 = .ok (.invokestatic 68, 3) := by decide +kernel
theorem dX8_fits_26 : decode cX8_fits 26 = .ok (.ifCond .eq 13, 3) := by decide +kernel
theorem dX8_fits_29 : decode cX8_fits 29 = .ok (.iload 4, 2) := by decide +kernel
theorem dX8_fits_31 : decode cX8_fits 31 = .ok (.iconst 0, 1) := by decide +kernel
theorem dX8_fits_32 : decode cX8_fits 32 = .ok (.iconst 2, 1) := by decide +kernel
theorem dX8_fits_33 : decode cX8_fits 33 = .ok (.invokestatic 68, 3) := by decide +kernel
theorem dX8_fits_36 : decode cX8_fits 36 = .ok (.ifCond .ne 6, 3) := by decide +kernel
theorem dX8_fits_39 : decode cX8_fits 39 = .ok (.ldc 76, 2) := by decide +kernel
theorem dX8_fits_41 : decode cX8_fits 41 = .ok (.ireturn, 1) := by decide +kernel
theorem dX8_fits_42 : decode cX8_fits 42 = .ok (.aload_n 0, 1) := by decide +kernel
theorem dX8_fits_43 : decode cX8_fits 43 = .ok (.iload_n 2, 1) := by decide +kernel
theorem dX8_fits_44 : decode cX8_fits 44 = .ok (.invokevirtual 84, 3) := by decide +kernel
theorem dX8_fits_47 : decode cX8_fits 47 = .ok (.ifCond .eq 9, 3) := by decide +kernel
theorem dX8_fits_50 : decode cX8_fits 50 = .ok (.aload_n 0, 1) := by decide +kernel
theorem dX8_fits_51 : decode cX8_fits 51 = .ok (.iconst 1, 1) := by decide +kernel
theorem dX8_fits_52 : decode cX8_fits 52 = .ok (.invokevirtual 77, 3) := by decide +kernel
theorem dX8_fits_55 : decode cX8_fits 55 = .ok (.ireturn, 1) := by decide +kernel
theorem dX8_fits_56 : decode cX8_fits 56 = .ok (.aload_n 0, 1) := by decide +kernel
theorem dX8_fits_57 : decode cX8_fits 57 = .ok (.iload_n 2, 1) := by decide +kernel
theorem dX8_fits_58 : decode cX8_fits 58 = .ok (.iconst 0, 1) := by decide +kernel
theorem dX8_fits_59 : decode cX8_fits 59 = .ok (.iload_n 3, 1) := by decide +kernel
theorem dX8_fits_60 : decode cX8_fits 60 = .ok (.invokevirtual 91, 3) := by decide +kernel
theorem dX8_fits_63 : decode cX8_fits 63 = .ok (.ifCond .ne 9, 3) := by decide +kernel
theorem dX8_fits_66 : decode cX8_fits 66 = .ok (.aload_n 0, 1) := by decide +kernel
theorem dX8_fits_67 : decode cX8_fits 67 = .ok (.iconst 2, 1) := by decide +kernel
theorem dX8_fits_68 : decode cX8_fits 68 = .ok (.invokevirtual 77, 3) := by decide +kernel
theorem dX8_fits_71 : decode cX8_fits 71 = .ok (.ireturn, 1) := by decide +kernel
theorem dX8_fits_72 : decode cX8_fits 72 = .ok (.iload 4, 2) := by decide +kernel
theorem dX8_fits_74 : decode cX8_fits 74 = .ok (.ifCond .ne 7, 3) := by decide +kernel
theorem dX8_fits_77 : decode cX8_fits 77 = .ok (.iconst 0, 1) := by decide +kernel
theorem dX8_fits_78 : decode cX8_fits 78 = .ok (.goto 32, 3) := by decide +kernel
theorem dX8_fits_81 : decode cX8_fits 81 = .ok (.iload 4, 2) := by decide +kernel
theorem dX8_fits_83 : decode cX8_fits 83 = .ok (.iconst 1, 1) := by decide +kernel
theorem dX8_fits_84 : decode cX8_fits 84 = .ok (.if_icmp .ne 11, 3) := by decide +kernel
theorem dX8_fits_87 : decode cX8_fits 87 = .ok (.iconst 3, 1) := by decide +kernel
theorem dX8_fits_88 : decode cX8_fits 88 = .ok (.iconst 5, 1) := by decide +kernel
theorem dX8_fits_89 : decode cX8_fits 89 = .ok (.iload_n 1, 1) := by decide +kernel
theorem dX8_fits_90 : decode cX8_fits 90 = .ok (.imul, 1) := by decide +kernel
theorem dX8_fits_91 : decode cX8_fits 91 = .ok (.iadd, 1) := by decide +kernel
theorem dX8_fits_92 : decode cX8_fits 92 = .ok (.goto 18, 3) := by decide +kernel
theorem dX8_fits_95 : decode cX8_fits 95 = .ok (.bipush 53, 2) := by decide +kernel
theorem dX8_fits_97 : decode cX8_fits 97 = .ok (.aload_n 0, 1) := by decide +kernel
theorem dX8_fits_98 : decode cX8_fits 98 = .ok (.getfield 25, 3) := by decide +kernel
theorem dX8_fits_101 : decode cX8_fits 101 = .ok (.iconst 3, 1) := by decide +kernel
theorem dX8_fits_102 : decode cX8_fits 102 = .ok (.iconst 5, 1) := by decide +kernel
theorem dX8_fits_103 : decode cX8_fits 103 = .ok (.iload_n 1, 1) := by decide +kernel
theorem dX8_fits_104 : decode cX8_fits 104 = .ok (.imul, 1) := by decide +kernel
theorem dX8_fits_105 : decode cX8_fits 105 = .ok (.iadd, 1) := by decide +kernel
theorem dX8_fits_106 : decode cX8_fits 106 = .ok (.iconst 1, 1) := by decide +kernel
theorem dX8_fits_107 : decode cX8_fits 107 = .ok (.iadd, 1) := by decide +kernel
theorem dX8_fits_108 : decode cX8_fits 108 = .ok (.iaload, 1) := by decide +kernel
theorem dX8_fits_109 : decode cX8_fits 109 = .ok (.iadd, 1) := by decide +kernel
theorem dX8_fits_110 : decode cX8_fits 110 = .ok (.istore 5, 2) := by decide +kernel
theorem dX8_fits_112 : decode cX8_fits 112 = .ok (.iconst 0, 1) := by decide +kernel
theorem dX8_fits_113 : decode cX8_fits 113 = .ok (.istore 6, 2) := by decide +kernel
theorem dX8_fits_115 : decode cX8_fits 115 = .ok (.iload 4, 2) := by decide +kernel
theorem dX8_fits_117 : decode cX8_fits 117 = .ok (.iconst 1, 1) := by decide +kernel
theorem dX8_fits_118 : decode cX8_fits 118 = .ok (.if_icmp .ne 7, 3) := by decide +kernel
theorem dX8_fits_121 : decode cX8_fits 121 = .ok (.iconst 1, 1) := by decide +kernel
theorem dX8_fits_122 : decode cX8_fits 122 = .ok (.goto 4, 3) := by decide +kernel
theorem dX8_fits_125 : decode cX8_fits 125 = .ok (.iconst 0, 1) := by decide +kernel
theorem dX8_fits_126 : decode cX8_fits 126 = .ok (.istore 7, 2) := by decide +kernel
theorem dX8_fits_128 : decode cX8_fits 128 = .ok (.iload 7, 2) := by decide +kernel
theorem dX8_fits_130 : decode cX8_fits 130 = .ok (.iload 4, 2) := by decide +kernel
theorem dX8_fits_132 : decode cX8_fits 132 = .ok (.ifCond .ne 8, 3) := by decide +kernel
theorem dX8_fits_135 : decode cX8_fits 135 = .ok (.bipush 14, 2) := by decide +kernel
theorem dX8_fits_137 : decode cX8_fits 137 = .ok (.goto 15, 3) := by decide +kernel
theorem dX8_fits_140 : decode cX8_fits 140 = .ok (.iload 4, 2) := by decide +kernel
theorem dX8_fits_142 : decode cX8_fits 142 = .ok (.iconst 1, 1) := by decide +kernel
theorem dX8_fits_143 : decode cX8_fits 143 = .ok (.if_icmp .ne 7, 3) := by decide +kernel
theorem dX8_fits_146 : decode cX8_fits 146 = .ok (.iconst 5, 1) := by decide +kernel
theorem dX8_fits_147 : decode cX8_fits 147 = .ok (.goto 5, 3) := by decide +kernel
theorem dX8_fits_150 : decode cX8_fits 150 = .ok (.bipush 11, 2) := by decide +kernel
theorem dX8_fits_152 : decode cX8_fits 152 = .ok (.if_icmp .gt 35, 3) := by decide +kernel
theorem dX8_fits_155 : decode cX8_fits 155 = .ok (.iload 6, 2) := by decide +kernel
theorem dX8_fits_157 : decode cX8_fits 157 = .ok (.aload_n 0, 1) := by decide +kernel
theorem dX8_fits_158 : decode cX8_fits 158 = .ok (.iload_n 2, 1) := by decide +kernel
theorem dX8_fits_159 : decode cX8_fits 159 = .ok (.iload_n 3, 1) := by decide +kernel
theorem dX8_fits_160 : decode cX8_fits 160 = .ok (.iload 5, 2) := by decide +kernel
theorem dX8_fits_162 : decode cX8_fits 162 = .ok (.iload 7, 2) := by decide +kernel
theorem dX8_fits_164 : decode cX8_fits 164 = .ok (.invokevirtual 247, 3) := by decide +kernel
theorem dX8_fits_167 : decode cX8_fits 167 = .ok (.ifCond .eq 10, 3) := by decide +kernel
theorem dX8_fits_170 : decode cX8_fits 170 = .ok (.iconst 1, 1) := by decide +kernel
theorem dX8_fits_171 : decode cX8_fits 171 = .ok (.iload 7, 2) := by decide +kernel
theorem dX8_fits_173 : decode cX8_fits 173 = .ok (.ishl, 1) := by decide +kernel
theorem dX8_fits_174 : decode cX8_fits 174 = .ok (.goto 4, 3) := by decide +kernel
theorem dX8_fits_177 : decode cX8_fits 177 = .ok (.iconst 0, 1) := by decide +kernel
theorem dX8_fits_178 : decode cX8_fits 178 = .ok (.ior, 1) := by decide +kernel
theorem dX8_fits_179 : decode cX8_fits 179 = .ok (.istore 6, 2) := by decide +kernel
theorem dX8_fits_181 : decode cX8_fits 181 = .ok (.iinc 7 1, 3) := by decide +kernel
theorem dX8_fits_184 : decode cX8_fits 184 = .ok (.goto (-56), 3) := by decide +kernel
theorem dX8_fits_187 : decode cX8_fits 187 = .ok (.aload_n 0, 1) := by decide +kernel
theorem dX8_fits_188 : decode cX8_fits 188 = .ok (.iload 6, 2) := by decide +kernel
theorem dX8_fits_190 : decode cX8_fits 190 = .ok (.invokevirtual 81, 3) := by decide +kernel
theorem dX8_fits_193 : decode cX8_fits 193 = .ok (.ireturn, 1) := by decide +kernel
theorem dX8_drawn_0 : decode cX8_drawn 0 = .ok (.aload_n 0, 1) := by decide +kernel
theorem dX8_drawn_1 : decode cX8_drawn 1 = .ok (.invokevirtual 215, 3) := by decide +kernel
theorem dX8_drawn_4 : decode cX8_drawn 4 = .ok (.ifCond .ne 6, 3) := by decide +kernel
theorem dX8_drawn_7 : decode cX8_drawn 7 = .ok (.ldc 208, 2) := by decide +kernel
theorem dX8_drawn_9 : decode cX8_drawn 9 = .ok (.ireturn, 1) := by decide +kernel
theorem dX8_drawn_10 : decode cX8_drawn 10 = .ok (.iload_n 1, 1) := by decide +kernel
theorem dX8_drawn_11 : decode cX8_drawn 11 = .ok (.iconst 0, 1) := by decide +kernel
theorem dX8_drawn_12 : decode cX8_drawn 12 = .ok (.bipush 20, 2) := by decide +kernel
theorem dX8_drawn_14 : decode cX8_drawn 14 = .ok (.invokestatic 68, 3) := by decide +kernel
theorem dX8_drawn_17 : decode cX8_drawn 17 = .ok (.ifCond .eq 22, 3) := by decide +kernel
theorem dX8_drawn_20 : decode cX8_drawn 20 = .ok (.iload_n 2, 1) := by decide +kernel
theorem dX8_drawn_21 : decode cX8_drawn 21 = .ok (.iconst 1, 1) := by decide +kernel
theorem dX8_drawn_22 : decode cX8_drawn 22 = .ok (.ldc 251, 2) := by decide +kernel
theorem dX8_drawn_24 : decode cX8_drawn 24 = .ok (.invokestatic 68, 3) := by decide +kernel
theorem dX8_drawn_27 : decode cX8_drawn 27 = .ok (.ifCond .eq 12, 3) := by decide +kernel
theorem dX8_drawn_30 : decode cX8_drawn 30 = .ok (.iload_n 3, 1) := by decide +kernel
theorem dX8_drawn_31 : decode cX8_drawn 31 = .ok (.iconst 0, 1) := by decide +kernel
theorem dX8_drawn_32 : decode cX8_drawn 32 = .ok (.iconst 1, 1) := by decide +kernel
theorem dX8_drawn_33 : decode cX8_drawn 33 = .ok (.invokestatic 68, 3) := by decide +kernel
theorem dX8_drawn_36 : decode cX8_drawn 36 = .ok (.ifCond .ne 6, 3) := by decide +kernel
theorem dX8_drawn_39 : decode cX8_drawn 39 = .ok (.ldc 76, 2) := by decide +kernel
theorem dX8_drawn_41 : decode cX8_drawn 41 = .ok (.ireturn, 1) := by decide +kernel
theorem dX8_drawn_42 : decode cX8_drawn 42 = .ok (.aload_n 0, 1) := by decide +kernel
theorem dX8_drawn_43 : decode cX8_drawn 43 = .ok (.getfield 25, 3) := by decide +kernel
theorem dX8_drawn_46 : decode cX8_drawn 46 = .ok (.iconst 0, 1) := by decide +kernel
theorem dX8_drawn_47 : decode cX8_drawn 47 = .ok (.aload_n 0, 1) := by decide +kernel
theorem dX8_drawn_48 : decode cX8_drawn 48 = .ok (.getfield 31, 3) := by decide +kernel
theorem dX8_drawn_51 : decode cX8_drawn 51 = .ok (.iconst 0, 1) := by decide +kernel
theorem dX8_drawn_52 : decode cX8_drawn 52 = .ok (.invokestatic 147, 3) := by decide +kernel
theorem dX8_drawn_55 : decode cX8_drawn 55 = .ok (.iload_n 2, 1) := by decide +kernel
theorem dX8_drawn_56 : decode cX8_drawn 56 = .ok (.i2l, 1) := by decide +kernel
theorem dX8_drawn_57 : decode cX8_drawn 57 = .ok (.lstore 4, 2) := by decide +kernel
theorem dX8_drawn_59 : decode cX8_drawn 59 = .ok (.iconst 0, 1) := by decide +kernel
theorem dX8_drawn_60 : decode cX8_drawn 60 = .ok (.istore 6, 2) := by decide +kernel
theorem dX8_drawn_62 : decode cX8_drawn 62 = .ok (.iconst 0, 1) := by decide +kernel
theorem dX8_drawn_63 : decode cX8_drawn 63 = .ok (.istore 7, 2) := by decide +kernel
theorem dX8_drawn_65 : decode cX8_drawn 65 = .ok (.iload 7, 2) := by decide +kernel
theorem dX8_drawn_67 : decode cX8_drawn 67 = .ok (.iload_n 1, 1) := by decide +kernel
theorem dX8_drawn_68 : decode cX8_drawn 68 = .ok (.if_icmp .ge 72, 3) := by decide +kernel
theorem dX8_drawn_71 : decode cX8_drawn 71 = .ok (.lload 4, 2) := by decide +kernel
theorem dX8_drawn_73 : decode cX8_drawn 73 = .ok (.ldc2_w 252, 3) := by decide +kernel
theorem dX8_drawn_76 : decode cX8_drawn 76 = .ok (.lmul, 1) := by decide +kernel
theorem dX8_drawn_77 : decode cX8_drawn 77 = .ok (.ldc2_w 254, 3) := by decide +kernel
theorem dX8_drawn_80 : decode cX8_drawn 80 = .ok (.lrem, 1) := by decide +kernel
theorem dX8_drawn_81 : decode cX8_drawn 81 = .ok (.lstore 4, 2) := by decide +kernel
theorem dX8_drawn_83 : decode cX8_drawn 83 = .ok (.aload_n 0, 1) := by decide +kernel
theorem dX8_drawn_84 : decode cX8_drawn 84 = .ok (.getfield 31, 3) := by decide +kernel
theorem dX8_drawn_87 : decode cX8_drawn 87 = .ok (.bipush 53, 2) := by decide +kernel
theorem dX8_drawn_89 : decode cX8_drawn 89 = .ok (.lload 4, 2) := by decide +kernel
theorem dX8_drawn_91 : decode cX8_drawn 91 = .ok (.aload_n 0, 1) := by decide +kernel
theorem dX8_drawn_92 : decode cX8_drawn 92 = .ok (.getfield 25, 3) := by decide +kernel
theorem dX8_drawn_95 : decode cX8_drawn 95 = .ok (.iconst 2, 1) := by decide +kernel
theorem dX8_drawn_96 : decode cX8_drawn 96 = .ok (.iaload, 1) := by decide +kernel
theorem dX8_drawn_97 : decode cX8_drawn 97 = .ok (.i2l, 1) := by decide +kernel
theorem dX8_drawn_98 : decode cX8_drawn 98 = .ok (.lrem, 1) := by decide +kernel
theorem dX8_drawn_99 : decode cX8_drawn 99 = .ok (.l2i, 1) := by decide +kernel
theorem dX8_drawn_100 : decode cX8_drawn 100 = .ok (.iadd, 1) := by decide +kernel
theorem dX8_drawn_101 : decode cX8_drawn 101 = .ok (.lload 4, 2) := by decide +kernel
theorem dX8_drawn_103 : decode cX8_drawn 103 = .ok (.ldc2_w 256, 3) := by decide +kernel
theorem dX8_drawn_106 : decode cX8_drawn 106 = .ok (.ldiv, 1) := by decide +kernel
theorem dX8_drawn_107 : decode cX8_drawn 107 = .ok (.ldc2_w 258, 3) := by decide +kernel
theorem dX8_drawn_110 : decode cX8_drawn 110 = .ok (.lrem, 1) := by decide +kernel
theorem dX8_drawn_111 : decode cX8_drawn 111 = .ok (.l2i, 1) := by decide +kernel
theorem dX8_drawn_112 : decode cX8_drawn 112 = .ok (.iastore, 1) := by decide +kernel
theorem dX8_drawn_113 : decode cX8_drawn 113 = .ok (.iload_n 3, 1) := by decide +kernel
theorem dX8_drawn_114 : decode cX8_drawn 114 = .ok (.ifCond .ne 20, 3) := by decide +kernel
theorem dX8_drawn_117 : decode cX8_drawn 117 = .ok (.aload_n 0, 1) := by decide +kernel
theorem dX8_drawn_118 : decode cX8_drawn 118 = .ok (.aload_n 0, 1) := by decide +kernel
theorem dX8_drawn_119 : decode cX8_drawn 119 = .ok (.getfield 31, 3) := by decide +kernel
theorem dX8_drawn_122 : decode cX8_drawn 122 = .ok (.invokevirtual 202, 3) := by decide +kernel
theorem dX8_drawn_125 : decode cX8_drawn 125 = .ok (.iload 6, 2) := by decide +kernel
theorem dX8_drawn_127 : decode cX8_drawn 127 = .ok (.aload_n 0, 1) := by decide +kernel
theorem dX8_drawn_128 : decode cX8_drawn 128 = .ok (.getfield 199, 3) := by decide +kernel
theorem dX8_drawn_131 : decode cX8_drawn 131 = .ok (.iadd, 1) := by decide +kernel
theorem dX8_drawn_132 : decode cX8_drawn 132 = .ok (.istore 6, 2) := by decide +kernel
theorem dX8_drawn_134 : decode cX8_drawn 134 = .ok (.iinc 7 1, 3) := by decide +kernel
theorem dX8_drawn_137 : decode cX8_drawn 137 = .ok (.goto (-72), 3) := by decide +kernel
theorem dX8_drawn_140 : decode cX8_drawn 140 = .ok (.iload_n 3, 1) := by decide +kernel
theorem dX8_drawn_141 : decode cX8_drawn 141 = .ok (.ifCond .ne 8, 3) := by decide +kernel
theorem dX8_drawn_144 : decode cX8_drawn 144 = .ok (.iload 6, 2) := by decide +kernel
theorem dX8_drawn_146 : decode cX8_drawn 146 = .ok (.goto 11, 3) := by decide +kernel
theorem dX8_drawn_149 : decode cX8_drawn 149 = .ok (.aload_n 0, 1) := by decide +kernel
theorem dX8_drawn_150 : decode cX8_drawn 150 = .ok (.aload_n 0, 1) := by decide +kernel
theorem dX8_drawn_151 : decode cX8_drawn 151 = .ok (.getfield 31, 3) := by decide +kernel
theorem dX8_drawn_154 : decode cX8_drawn 154 = .ok (.invokevirtual 224, 3) := by decide +kernel
theorem dX8_drawn_157 : decode cX8_drawn 157 = .ok (.ireturn, 1) := by decide +kernel
theorem dX8_image_0 : decode cX8_image 0 = .ok (.iload_n 1, 1) := by decide +kernel
theorem dX8_image_1 : decode cX8_image 1 = .ok (.iconst 0, 1) := by decide +kernel
theorem dX8_image_2 : decode cX8_image 2 = .ok (.iconst 1, 1) := by decide +kernel
theorem dX8_image_3 : decode cX8_image 3 = .ok (.invokestatic 68, 3) := by decide +kernel
theorem dX8_image_6 : decode cX8_image 6 = .ok (.ifCond .ne 6, 3) := by decide +kernel
theorem dX8_image_9 : decode cX8_image 9 = .ok (.ldc 76, 2) := by decide +kernel
theorem dX8_image_11 : decode cX8_image 11 = .ok (.ireturn, 1) := by decide +kernel
theorem dX8_image_12 : decode cX8_image 12 = .ok (.aload_n 0, 1) := by decide +kernel
theorem dX8_image_13 : decode cX8_image 13 = .ok (.invokevirtual 215, 3) := by decide +kernel
theorem dX8_image_16 : decode cX8_image 16 = .ok (.ifCond .ne 6, 3) := by decide +kernel
theorem dX8_image_19 : decode cX8_image 19 = .ok (.ldc 208, 2) := by decide +kernel
theorem dX8_image_21 : decode cX8_image 21 = .ok (.ireturn, 1) := by decide +kernel
theorem dX8_image_22 : decode cX8_image 22 = .ok (.aload_n 0, 1) := by decide +kernel
theorem dX8_image_23 : decode cX8_image 23 = .ok (.getfield 25, 3) := by decide +kernel
theorem dX8_image_26 : decode cX8_image 26 = .ok (.iconst 0, 1) := by decide +kernel
theorem dX8_image_27 : decode cX8_image 27 = .ok (.aload_n 0, 1) := by decide +kernel
theorem dX8_image_28 : decode cX8_image 28 = .ok (.getfield 37, 3) := by decide +kernel
theorem dX8_image_31 : decode cX8_image 31 = .ok (.bipush 93, 2) := by decide +kernel
theorem dX8_image_33 : decode cX8_image 33 = .ok (.iload_n 1, 1) := by decide +kernel
theorem dX8_image_34 : decode cX8_image 34 = .ok (.imul, 1) := by decide +kernel
theorem dX8_image_35 : decode cX8_image 35 = .ok (.invokestatic 147, 3) := by decide +kernel
theorem dX8_image_38 : decode cX8_image 38 = .ok (.aload_n 0, 1) := by decide +kernel
theorem dX8_image_39 : decode cX8_image 39 = .ok (.getfield 40, 3) := by decide +kernel
theorem dX8_image_42 : decode cX8_image 42 = .ok (.iload_n 1, 1) := by decide +kernel
theorem dX8_image_43 : decode cX8_image 43 = .ok (.iconst 1, 1) := by decide +kernel
theorem dX8_image_44 : decode cX8_image 44 = .ok (.bastore, 1) := by decide +kernel
theorem dX8_image_45 : decode cX8_image 45 = .ok (.iconst 1, 1) := by decide +kernel
theorem dX8_image_46 : decode cX8_image 46 = .ok (.ireturn, 1) := by decide +kernel
theorem dX8_restore_0 : decode cX8_restore 0 = .ok (.iload_n 1, 1) := by decide +kernel
theorem dX8_restore_1 : decode cX8_restore 1 = .ok (.iconst 0, 1) := by decide +kernel
theorem dX8_restore_2 : decode cX8_restore 2 = .ok (.iconst 1, 1) := by decide +kernel
theorem dX8_restore_3 : decode cX8_restore 3 = .ok (.invokestatic 68, 3) := by decide +kernel
theorem dX8_restore_6 : decode cX8_restore 6 = .ok (.ifCond .ne 6, 3) := by decide +kernel
theorem dX8_restore_9 : decode cX8_restore 9 = .ok (.ldc 76, 2) := by decide +kernel
theorem dX8_restore_11 : decode cX8_restore 11 = .ok (.ireturn, 1) := by decide +kernel
theorem dX8_restore_12 : decode cX8_restore 12 = .ok (.aload_n 0, 1) := by decide +kernel
theorem dX8_restore_13 : decode cX8_restore 13 = .ok (.getfield 40, 3) := by decide +kernel
theorem dX8_restore_16 : decode cX8_restore 16 = .ok (.iload_n 1, 1) := by decide +kernel
theorem dX8_restore_17 : decode cX8_restore 17 = .ok (.baload, 1) := by decide +kernel
theorem dX8_restore_18 : decode cX8_restore 18 = .ok (.ifCond .ne 6, 3) := by decide +kernel
theorem dX8_restore_21 : decode cX8_restore 21 = .ok (.ldc 208, 2) := by decide +kernel
theorem dX8_restore_23 : decode cX8_restore 23 = .ok (.ireturn, 1) := by decide +kernel
theorem dX8_restore_24 : decode cX8_restore 24 = .ok (.aload_n 0, 1) := by decide +kernel
theorem dX8_restore_25 : decode cX8_restore 25 = .ok (.getfield 37, 3) := by decide +kernel
theorem dX8_restore_28 : decode cX8_restore 28 = .ok (.bipush 93, 2) := by decide +kernel
theorem dX8_restore_30 : decode cX8_restore 30 = .ok (.iload_n 1, 1) := by decide +kernel
theorem dX8_restore_31 : decode cX8_restore 31 = .ok (.imul, 1) := by decide +kernel
theorem dX8_restore_32 : decode cX8_restore 32 = .ok (.aload_n 0, 1) := by decide +kernel
theorem dX8_restore_33 : decode cX8_restore 33 = .ok (.getfield 25, 3) := by decide +kernel
theorem dX8_restore_36 : decode cX8_restore 36 = .ok (.iconst 0, 1) := by decide +kernel
theorem dX8_restore_37 : decode cX8_restore 37 = .ok (.invokestatic 147, 3) := by decide +kernel
theorem dX8_restore_40 : decode cX8_restore 40 = .ok (.aload_n 0, 1) := by decide +kernel
theorem dX8_restore_41 : decode cX8_restore 41 = .ok (.iconst 0, 1) := by decide +kernel
theorem dX8_restore_42 : decode cX8_restore 42 = .ok (.putfield 151, 3) := by decide +kernel
theorem dX8_restore_45 : decode cX8_restore 45 = .ok (.iconst 1, 1) := by decide +kernel
theorem dX8_restore_46 : decode cX8_restore 46 = .ok (.ireturn, 1) := by decide +kernel
theorem dX8_kindIn_0 : decode cX8_kindIn 0 = .ok (.aload_n 0, 1) := by decide +kernel
theorem dX8_kindIn_1 : decode cX8_kindIn 1 = .ok (.getfield 25, 3) := by decide +kernel
theorem dX8_kindIn_4 : decode cX8_kindIn 4 = .ok (.iconst 3, 1) := by decide +kernel
theorem dX8_kindIn_5 : decode cX8_kindIn 5 = .ok (.iconst 5, 1) := by decide +kernel
theorem dX8_kindIn_6 : decode cX8_kindIn 6 = .ok (.iload_n 1, 1) := by decide +kernel
theorem dX8_kindIn_7 : decode cX8_kindIn 7 = .ok (.imul, 1) := by decide +kernel
theorem dX8_kindIn_8 : decode cX8_kindIn 8 = .ok (.iadd, 1) := by decide +kernel
theorem dX8_kindIn_9 : decode cX8_kindIn 9 = .ok (.iaload, 1) := by decide +kernel
theorem dX8_kindIn_10 : decode cX8_kindIn 10 = .ok (.ireturn, 1) := by decide +kernel
theorem dX8_kind_0 : decode cX8_kind 0 = .ok (.aload_n 0, 1) := by decide +kernel
theorem dX8_kind_1 : decode cX8_kind 1 = .ok (.iload_n 1, 1) := by decide +kernel
theorem dX8_kind_2 : decode cX8_kind 2 = .ok (.invokevirtual 212, 3) := by decide +kernel
theorem dX8_kind_5 : decode cX8_kind 5 = .ok (.ifCond .eq 11, 3) := by decide +kernel
theorem dX8_kind_8 : decode cX8_kind 8 = .ok (.aload_n 0, 1) := by decide +kernel
theorem dX8_kind_9 : decode cX8_kind 9 = .ok (.iload_n 1, 1) := by decide +kernel
theorem dX8_kind_10 : decode cX8_kind 10 = .ok (.invokevirtual 260, 3) := by decide +kernel
theorem dX8_kind_13 : decode cX8_kind 13 = .ok (.goto 5, 3) := by decide +kernel
theorem dX8_kind_16 : decode cX8_kind 16 = .ok (.ldc 76, 2) := by decide +kernel
theorem dX8_kind_18 : decode cX8_kind 18 = .ok (.ireturn, 1) := by decide +kernel
theorem dX8_as_0 : decode cX8_as 0 = .ok (.aload_n 0, 1) := by decide +kernel
theorem dX8_as_1 : decode cX8_as 1 = .ok (.iload_n 1, 1) := by decide +kernel
theorem dX8_as_2 : decode cX8_as 2 = .ok (.invokevirtual 212, 3) := by decide +kernel
theorem dX8_as_5 : decode cX8_as 5 = .ok (.ifCond .eq 12, 3) := by decide +kernel
theorem dX8_as_8 : decode cX8_as 8 = .ok (.iload_n 2, 1) := by decide +kernel
theorem dX8_as_9 : decode cX8_as 9 = .ok (.iconst 0, 1) := by decide +kernel
theorem dX8_as_10 : decode cX8_as 10 = .ok (.iconst 5, 1) := by decide +kernel
theorem dX8_as_11 : decode cX8_as 11 = .ok (.invokestatic 68, 3) := by decide +kernel
theorem dX8_as_14 : decode cX8_as 14 = .ok (.ifCond .ne 6, 3) := by decide +kernel
theorem dX8_as_17 : decode cX8_as 17 = .ok (.ldc 76, 2) := by decide +kernel
theorem dX8_as_19 : decode cX8_as 19 = .ok (.ireturn, 1) := by decide +kernel
theorem dX8_as_20 : decode cX8_as 20 = .ok (.aload_n 0, 1) := by decide +kernel
theorem dX8_as_21 : decode cX8_as 21 = .ok (.iload_n 1, 1) := by decide +kernel
theorem dX8_as_22 : decode cX8_as 22 = .ok (.invokevirtual 260, 3) := by decide +kernel
theorem dX8_as_25 : decode cX8_as 25 = .ok (.istore_n 3, 1) := by decide +kernel
theorem dX8_as_26 : decode cX8_as 26 = .ok (.iload_n 2, 1) := by decide +kernel
theorem dX8_as_27 : decode cX8_as 27 = .ok (.ifCond .eq 28, 3) := by decide +kernel
theorem dX8_as_30 : decode cX8_as 30 = .ok (.iload_n 2, 1) := by decide +kernel
theorem dX8_as_31 : decode cX8_as 31 = .ok (.iload_n 3, 1) := by decide +kernel
theorem dX8_as_32 : decode cX8_as 32 = .ok (.if_icmp .eq 23, 3) := by decide +kernel
theorem dX8_as_35 : decode cX8_as 35 = .ok (.iload_n 2, 1) := by decide +kernel
theorem dX8_as_36 : decode cX8_as 36 = .ok (.iconst 1, 1) := by decide +kernel
theorem dX8_as_37 : decode cX8_as 37 = .ok (.if_icmp .ne 8, 3) := by decide +kernel
theorem dX8_as_40 : decode cX8_as 40 = .ok (.iload_n 3, 1) := by decide +kernel
theorem dX8_as_41 : decode cX8_as 41 = .ok (.iconst 4, 1) := by decide +kernel
theorem dX8_as_42 : decode cX8_as 42 = .ok (.if_icmp .lt 13, 3) := by decide +kernel
theorem dX8_as_45 : decode cX8_as 45 = .ok (.iload_n 2, 1) := by decide +kernel
theorem dX8_as_46 : decode cX8_as 46 = .ok (.iconst 4, 1) := by decide +kernel
theorem dX8_as_47 : decode cX8_as 47 = .ok (.if_icmp .ne 12, 3) := by decide +kernel
theorem dX8_as_50 : decode cX8_as 50 = .ok (.iload_n 3, 1) := by decide +kernel
theorem dX8_as_51 : decode cX8_as 51 = .ok (.iconst 5, 1) := by decide +kernel
theorem dX8_as_52 : decode cX8_as 52 = .ok (.if_icmp .ne 7, 3) := by decide +kernel
theorem dX8_as_55 : decode cX8_as 55 = .ok (.iconst 1, 1) := by decide +kernel
theorem dX8_as_56 : decode cX8_as 56 = .ok (.goto 4, 3) := by decide +kernel
theorem dX8_as_59 : decode cX8_as 59 = .ok (.iconst 0, 1) := by decide +kernel
theorem dX8_as_60 : decode cX8_as 60 = .ok (.istore 4, 2) := by decide +kernel
theorem dX8_as_62 : decode cX8_as 62 = .ok (.iload 4, 2) := by decide +kernel
theorem dX8_as_64 : decode cX8_as 64 = .ok (.ifCond .eq 11, 3) := by decide +kernel
theorem dX8_as_67 : decode cX8_as 67 = .ok (.aload_n 0, 1) := by decide +kernel
theorem dX8_as_68 : decode cX8_as 68 = .ok (.iload_n 1, 1) := by decide +kernel
theorem dX8_as_69 : decode cX8_as 69 = .ok (.invokevirtual 81, 3) := by decide +kernel
theorem dX8_as_72 : decode cX8_as 72 = .ok (.goto 8, 3) := by decide +kernel
theorem dX8_as_75 : decode cX8_as 75 = .ok (.aload_n 0, 1) := by decide +kernel
theorem dX8_as_76 : decode cX8_as 76 = .ok (.iconst 3, 1) := by decide +kernel
theorem dX8_as_77 : decode cX8_as 77 = .ok (.invokevirtual 77, 3) := by decide +kernel
theorem dX8_as_80 : decode cX8_as 80 = .ok (.ireturn, 1) := by decide +kernel
theorem dX8_begins_0 : decode cX8_begins 0 = .ok (.aload_n 0, 1) := by decide +kernel
theorem dX8_begins_1 : decode cX8_begins 1 = .ok (.getfield 263, 3) := by decide +kernel
theorem dX8_begins_4 : decode cX8_begins 4 = .ok (.bipush 16, 2) := by decide +kernel
theorem dX8_begins_6 : decode cX8_begins 6 = .ok (.if_icmp .ge 23, 3) := by decide +kernel
theorem dX8_begins_9 : decode cX8_begins 9 = .ok (.aload_n 0, 1) := by decide +kernel
theorem dX8_begins_10 : decode cX8_begins 10 = .ok (.getfield 59, 3) := by decide +kernel
theorem dX8_begins_13 : decode cX8_begins 13 = .ok (.aload_n 0, 1) := by decide +kernel
theorem dX8_begins_14 : decode cX8_begins 14 = .ok (.getfield 263, 3) := by decide +kernel
theorem dX8_begins_17 : decode cX8_begins 17 = .ok (.iload_n 1, 1) := by decide +kernel
theorem dX8_begins_18 : decode cX8_begins 18 = .ok (.iastore, 1) := by decide +kernel
theorem dX8_begins_19 : decode cX8_begins 19 = .ok (.aload_n 0, 1) := by decide +kernel
theorem dX8_begins_20 : decode cX8_begins 20 = .ok (.dup, 1) := by decide +kernel
theorem dX8_begins_21 : decode cX8_begins 21 = .ok (.getfield 263, 3) := by decide +kernel
theorem dX8_begins_24 : decode cX8_begins 24 = .ok (.iconst 1, 1) := by decide +kernel
theorem dX8_begins_25 : decode cX8_begins 25 = .ok (.iadd, 1) := by decide +kernel
theorem dX8_begins_26 : decode cX8_begins 26 = .ok (.putfield 263, 3) := by decide +kernel
theorem dX8_begins_29 : decode cX8_begins 29 = .ok (.return_, 1) := by decide +kernel
theorem dX8_plainMark_0 : decode cX8_plainMark 0 = .ok (.aload_n 0, 1) := by decide +kernel
theorem dX8_plainMark_1 : decode cX8_plainMark 1 = .ok (.iload_n 1, 1) := by decide +kernel
theorem dX8_plainMark_2 : decode cX8_plainMark 2 = .ok (.invokevirtual 260, 3) := by decide +kernel
theorem dX8_plainMark_5 : decode cX8_plainMark 5 = .ok (.istore_n 2, 1) := by decide +kernel
theorem dX8_plainMark_6 : decode cX8_plainMark 6 = .ok (.iload_n 2, 1) := by decide +kernel
theorem dX8_plainMark_7 : decode cX8_plainMark 7 = .ok (.iconst 1, 1) := by decide +kernel
theorem dX8_plainMark_8 : decode cX8_plainMark 8 = .ok (.if_icmp .eq 19, 3) := by decide +kernel
theorem dX8_plainMark_11 : decode cX8_plainMark 11 = .ok (.aload_n 0, 1) := by decide +kernel
theorem dX8_plainMark_12 : decode cX8_plainMark 12 = .ok (.iload_n 2, 1) := by decide +kernel
theorem dX8_plainMark_13 : decode cX8_plainMark 13 = .ok (.iconst 2, 1) := by decide +kernel
theorem dX8_plainMark_14 : decode cX8_plainMark 14 = .ok (.if_icmp .ne 8, 3) := by decide +kernel
theorem dX8_plainMark_17 : decode cX8_plainMark 17 = .ok (.bipush 24, 2) := by decide +kernel
theorem dX8_plainMark_19 : decode cX8_plainMark 19 = .ok (.goto 5, 3) := by decide +kernel
theorem dX8_plainMark_22 : decode cX8_plainMark 22 = .ok (.bipush 22, 2) := by decide +kernel
theorem dX8_plainMark_24 : decode cX8_plainMark 24 = .ok (.invokevirtual 266, 3) := by decide +kernel
theorem dX8_plainMark_27 : decode cX8_plainMark 27 = .ok (.aload_n 0, 1) := by decide +kernel
theorem dX8_plainMark_28 : decode cX8_plainMark 28 = .ok (.bipush 21, 2) := by decide +kernel
theorem dX8_plainMark_30 : decode cX8_plainMark 30 = .ok (.invokevirtual 266, 3) := by decide +kernel
theorem dX8_plainMark_33 : decode cX8_plainMark 33 = .ok (.aload_n 0, 1) := by decide +kernel
theorem dX8_plainMark_34 : decode cX8_plainMark 34 = .ok (.bipush 20, 2) := by decide +kernel
theorem dX8_plainMark_36 : decode cX8_plainMark 36 = .ok (.invokevirtual 266, 3) := by decide +kernel
theorem dX8_plainMark_39 : decode cX8_plainMark 39 = .ok (.iload_n 1, 1) := by decide +kernel
theorem dX8_plainMark_40 : decode cX8_plainMark 40 = .ok (.aload_n 0, 1) := by decide +kernel
theorem dX8_plainMark_41 : decode cX8_plainMark 41 = .ok (.iload_n 1, 1) := by decide +kernel
theorem dX8_plainMark_42 : decode cX8_plainMark 42 = .ok (.invokevirtual 228, 3) := by decide +kernel
theorem dX8_plainMark_45 : decode cX8_plainMark 45 = .ok (.iadd, 1) := by decide +kernel
theorem dX8_plainMark_46 : decode cX8_plainMark 46 = .ok (.istore_n 3, 1) := by decide +kernel
theorem dX8_plainMark_47 : decode cX8_plainMark 47 = .ok (.iload_n 2, 1) := by decide +kernel
theorem dX8_plainMark_48 : decode cX8_plainMark 48 = .ok (.iconst 2, 1) := by decide +kernel
theorem dX8_plainMark_49 : decode cX8_plainMark 49 = .ok (.if_icmp .ne 9, 3) := by decide +kernel
theorem dX8_plainMark_52 : decode cX8_plainMark 52 = .ok (.iconst 2, 1) := by decide +kernel
theorem dX8_plainMark_53 : decode cX8_plainMark 53 = .ok (.iload_n 3, 1) := by decide +kernel
theorem dX8_plainMark_54 : decode cX8_plainMark 54 = .ok (.imul, 1) := by decide +kernel
theorem dX8_plainMark_55 : decode cX8_plainMark 55 = .ok (.goto 17, 3) := by decide +kernel
theorem dX8_plainMark_58 : decode cX8_plainMark 58 = .ok (.iload_n 2, 1) := by decide +kernel
theorem dX8_plainMark_59 : decode cX8_plainMark 59 = .ok (.iconst 3, 1) := by decide +kernel
theorem dX8_plainMark_60 : decode cX8_plainMark 60 = .ok (.if_icmp .ne 11, 3) := by decide +kernel
theorem dX8_plainMark_63 : decode cX8_plainMark 63 = .ok (.iload_n 3, 1) := by decide +kernel
theorem dX8_plainMark_64 : decode cX8_plainMark 64 = .ok (.sipush 1000, 3) := by decide +kernel
theorem dX8_plainMark_67 : decode cX8_plainMark 67 = .ok (.isub, 1) := by decide +kernel
theorem dX8_plainMark_68 : decode cX8_plainMark 68 = .ok (.goto 4, 3) := by decide +kernel
theorem dX8_plainMark_71 : decode cX8_plainMark 71 = .ok (.iload_n 3, 1) := by decide +kernel
theorem dX8_plainMark_72 : decode cX8_plainMark 72 = .ok (.ireturn, 1) := by decide +kernel
theorem dX8_heldSize_0 : decode cX8_heldSize 0 = .ok (.aload_n 0, 1) := by decide +kernel
theorem dX8_heldSize_1 : decode cX8_heldSize 1 = .ok (.iload_n 1, 1) := by decide +kernel
theorem dX8_heldSize_2 : decode cX8_heldSize 2 = .ok (.invokevirtual 260, 3) := by decide +kernel
theorem dX8_heldSize_5 : decode cX8_heldSize 5 = .ok (.iconst 5, 1) := by decide +kernel
theorem dX8_heldSize_6 : decode cX8_heldSize 6 = .ok (.if_icmp .ne 7, 3) := by decide +kernel
theorem dX8_heldSize_9 : decode cX8_heldSize 9 = .ok (.iconst 1, 1) := by decide +kernel
theorem dX8_heldSize_10 : decode cX8_heldSize 10 = .ok (.goto 4, 3) := by decide +kernel
theorem dX8_heldSize_13 : decode cX8_heldSize 13 = .ok (.iconst 0, 1) := by decide +kernel
theorem dX8_heldSize_14 : decode cX8_heldSize 14 = .ok (.istore_n 2, 1) := by decide +kernel
theorem dX8_heldSize_15 : decode cX8_heldSize 15 = .ok (.iload_n 2, 1) := by decide +kernel
theorem dX8_heldSize_16 : decode cX8_heldSize 16 = .ok (.ifCond .eq 9, 3) := by decide +kernel
theorem dX8_heldSize_19 : decode cX8_heldSize 19 = .ok (.aload_n 0, 1) := by decide +kernel
theorem dX8_heldSize_20 : decode cX8_heldSize 20 = .ok (.bipush 14, 2) := by decide +kernel
theorem dX8_heldSize_22 : decode cX8_heldSize 22 = .ok (.invokevirtual 266, 3) := by decide +kernel
theorem dX8_heldSize_25 : decode cX8_heldSize 25 = .ok (.aload_n 0, 1) := by decide +kernel
theorem dX8_heldSize_26 : decode cX8_heldSize 26 = .ok (.bipush 13, 2) := by decide +kernel
theorem dX8_heldSize_28 : decode cX8_heldSize 28 = .ok (.invokevirtual 266, 3) := by decide +kernel
theorem dX8_heldSize_31 : decode cX8_heldSize 31 = .ok (.aload_n 0, 1) := by decide +kernel
theorem dX8_heldSize_32 : decode cX8_heldSize 32 = .ok (.bipush 10, 2) := by decide +kernel
theorem dX8_heldSize_34 : decode cX8_heldSize 34 = .ok (.invokevirtual 266, 3) := by decide +kernel
theorem dX8_heldSize_37 : decode cX8_heldSize 37 = .ok (.aload_n 0, 1) := by decide +kernel
theorem dX8_heldSize_38 : decode cX8_heldSize 38 = .ok (.getfield 25, 3) := by decide +kernel
theorem dX8_heldSize_41 : decode cX8_heldSize 41 = .ok (.iconst 3, 1) := by decide +kernel
theorem dX8_heldSize_42 : decode cX8_heldSize 42 = .ok (.iconst 5, 1) := by decide +kernel
theorem dX8_heldSize_43 : decode cX8_heldSize 43 = .ok (.iload_n 1, 1) := by decide +kernel
theorem dX8_heldSize_44 : decode cX8_heldSize 44 = .ok (.imul, 1) := by decide +kernel
theorem dX8_heldSize_45 : decode cX8_heldSize 45 = .ok (.iadd, 1) := by decide +kernel
theorem dX8_heldSize_46 : decode cX8_heldSize 46 = .ok (.iconst 2, 1) := by decide +kernel
theorem dX8_heldSize_47 : decode cX8_heldSize 47 = .ok (.iadd, 1) := by decide +kernel
theorem dX8_heldSize_48 : decode cX8_heldSize 48 = .ok (.iaload, 1) := by decide +kernel
theorem dX8_heldSize_49 : decode cX8_heldSize 49 = .ok (.bipush 100, 2) := by decide +kernel
theorem dX8_heldSize_51 : decode cX8_heldSize 51 = .ok (.isub, 1) := by decide +kernel
theorem dX8_heldSize_52 : decode cX8_heldSize 52 = .ok (.istore_n 3, 1) := by decide +kernel
theorem dX8_heldSize_53 : decode cX8_heldSize 53 = .ok (.iload_n 2, 1) := by decide +kernel
theorem dX8_heldSize_54 : decode cX8_heldSize 54 = .ok (.ifCond .eq 9, 3) := by decide +kernel
theorem dX8_heldSize_57 : decode cX8_heldSize 57 = .ok (.iconst 2, 1) := by decide +kernel
theorem dX8_heldSize_58 : decode cX8_heldSize 58 = .ok (.iload_n 3, 1) := by decide +kernel
theorem dX8_heldSize_59 : decode cX8_heldSize 59 = .ok (.imul, 1) := by decide +kernel
theorem dX8_heldSize_60 : decode cX8_heldSize 60 = .ok (.goto 4, 3) := by decide +kernel
theorem dX8_heldSize_63 : decode cX8_heldSize 63 = .ok (.iload_n 3, 1) := by decide +kernel
theorem dX8_heldSize_64 : decode cX8_heldSize 64 = .ok (.ireturn, 1) := by decide +kernel
theorem dX8_plainSize_0 : decode cX8_plainSize 0 = .ok (.aload_n 0, 1) := by decide +kernel
theorem dX8_plainSize_1 : decode cX8_plainSize 1 = .ok (.iload_n 1, 1) := by decide +kernel
theorem dX8_plainSize_2 : decode cX8_plainSize 2 = .ok (.invokevirtual 260, 3) := by decide +kernel
theorem dX8_plainSize_5 : decode cX8_plainSize 5 = .ok (.iconst 2, 1) := by decide +kernel
theorem dX8_plainSize_6 : decode cX8_plainSize 6 = .ok (.if_icmp .ne 7, 3) := by decide +kernel
theorem dX8_plainSize_9 : decode cX8_plainSize 9 = .ok (.iconst 1, 1) := by decide +kernel
theorem dX8_plainSize_10 : decode cX8_plainSize 10 = .ok (.goto 4, 3) := by decide +kernel
theorem dX8_plainSize_13 : decode cX8_plainSize 13 = .ok (.iconst 0, 1) := by decide +kernel
theorem dX8_plainSize_14 : decode cX8_plainSize 14 = .ok (.istore_n 2, 1) := by decide +kernel
theorem dX8_plainSize_15 : decode cX8_plainSize 15 = .ok (.iload_n 2, 1) := by decide +kernel
theorem dX8_plainSize_16 : decode cX8_plainSize 16 = .ok (.ifCond .eq 9, 3) := by decide +kernel
theorem dX8_plainSize_19 : decode cX8_plainSize 19 = .ok (.aload_n 0, 1) := by decide +kernel
theorem dX8_plainSize_20 : decode cX8_plainSize 20 = .ok (.bipush 12, 2) := by decide +kernel
theorem dX8_plainSize_22 : decode cX8_plainSize 22 = .ok (.invokevirtual 266, 3) := by decide +kernel
theorem dX8_plainSize_25 : decode cX8_plainSize 25 = .ok (.aload_n 0, 1) := by decide +kernel
theorem dX8_plainSize_26 : decode cX8_plainSize 26 = .ok (.bipush 11, 2) := by decide +kernel
theorem dX8_plainSize_28 : decode cX8_plainSize 28 = .ok (.invokevirtual 266, 3) := by decide +kernel
theorem dX8_plainSize_31 : decode cX8_plainSize 31 = .ok (.aload_n 0, 1) := by decide +kernel
theorem dX8_plainSize_32 : decode cX8_plainSize 32 = .ok (.bipush 10, 2) := by decide +kernel
theorem dX8_plainSize_34 : decode cX8_plainSize 34 = .ok (.invokevirtual 266, 3) := by decide +kernel
theorem dX8_plainSize_37 : decode cX8_plainSize 37 = .ok (.aload_n 0, 1) := by decide +kernel
theorem dX8_plainSize_38 : decode cX8_plainSize 38 = .ok (.getfield 25, 3) := by decide +kernel
theorem dX8_plainSize_41 : decode cX8_plainSize 41 = .ok (.iconst 3, 1) := by decide +kernel
theorem dX8_plainSize_42 : decode cX8_plainSize 42 = .ok (.iconst 5, 1) := by decide +kernel
theorem dX8_plainSize_43 : decode cX8_plainSize 43 = .ok (.iload_n 1, 1) := by decide +kernel
theorem dX8_plainSize_44 : decode cX8_plainSize 44 = .ok (.imul, 1) := by decide +kernel
theorem dX8_plainSize_45 : decode cX8_plainSize 45 = .ok (.iadd, 1) := by decide +kernel
theorem dX8_plainSize_46 : decode cX8_plainSize 46 = .ok (.iconst 2, 1) := by decide +kernel
theorem dX8_plainSize_47 : decode cX8_plainSize 47 = .ok (.iadd, 1) := by decide +kernel
theorem dX8_plainSize_48 : decode cX8_plainSize 48 = .ok (.iaload, 1) := by decide +kernel
theorem dX8_plainSize_49 : decode cX8_plainSize 49 = .ok (.aload_n 0, 1) := by decide +kernel
theorem dX8_plainSize_50 : decode cX8_plainSize 50 = .ok (.iload_n 1, 1) := by decide +kernel
theorem dX8_plainSize_51 : decode cX8_plainSize 51 = .ok (.invokevirtual 270, 3) := by decide +kernel
theorem dX8_plainSize_54 : decode cX8_plainSize 54 = .ok (.iadd, 1) := by decide +kernel
theorem dX8_plainSize_55 : decode cX8_plainSize 55 = .ok (.istore_n 3, 1) := by decide +kernel
theorem dX8_plainSize_56 : decode cX8_plainSize 56 = .ok (.iload_n 2, 1) := by decide +kernel
theorem dX8_plainSize_57 : decode cX8_plainSize 57 = .ok (.ifCond .eq 8, 3) := by decide +kernel
theorem dX8_plainSize_60 : decode cX8_plainSize 60 = .ok (.iload_n 3, 1) := by decide +kernel
theorem dX8_plainSize_61 : decode cX8_plainSize 61 = .ok (.ineg, 1) := by decide +kernel
theorem dX8_plainSize_62 : decode cX8_plainSize 62 = .ok (.goto 4, 3) := by decide +kernel
theorem dX8_plainSize_65 : decode cX8_plainSize 65 = .ok (.iload_n 3, 1) := by decide +kernel
theorem dX8_plainSize_66 : decode cX8_plainSize 66 = .ok (.ireturn, 1) := by decide +kernel
theorem dX8_heldMark_0 : decode cX8_heldMark 0 = .ok (.aload_n 0, 1) := by decide +kernel
theorem dX8_heldMark_1 : decode cX8_heldMark 1 = .ok (.bipush 23, 2) := by decide +kernel
theorem dX8_heldMark_3 : decode cX8_heldMark 3 = .ok (.invokevirtual 266, 3) := by decide +kernel
theorem dX8_heldMark_6 : decode cX8_heldMark 6 = .ok (.aload_n 0, 1) := by decide +kernel
theorem dX8_heldMark_7 : decode cX8_heldMark 7 = .ok (.bipush 20, 2) := by decide +kernel
theorem dX8_heldMark_9 : decode cX8_heldMark 9 = .ok (.invokevirtual 266, 3) := by decide +kernel
theorem dX8_heldMark_12 : decode cX8_heldMark 12 = .ok (.iload_n 1, 1) := by decide +kernel
theorem dX8_heldMark_13 : decode cX8_heldMark 13 = .ok (.aload_n 0, 1) := by decide +kernel
theorem dX8_heldMark_14 : decode cX8_heldMark 14 = .ok (.iload_n 1, 1) := by decide +kernel
theorem dX8_heldMark_15 : decode cX8_heldMark 15 = .ok (.invokevirtual 273, 3) := by decide +kernel
theorem dX8_heldMark_18 : decode cX8_heldMark 18 = .ok (.isub, 1) := by decide +kernel
theorem dX8_heldMark_19 : decode cX8_heldMark 19 = .ok (.ireturn, 1) := by decide +kernel
theorem dX8_ask_0 : decode cX8_ask 0 = .ok (.aload_n 0, 1) := by decide +kernel
theorem dX8_ask_1 : decode cX8_ask 1 = .ok (.iload_n 1, 1) := by decide +kernel
theorem dX8_ask_2 : decode cX8_ask 2 = .ok (.invokevirtual 212, 3) := by decide +kernel
theorem dX8_ask_5 : decode cX8_ask 5 = .ok (.ifCond .eq 12, 3) := by decide +kernel
theorem dX8_ask_8 : decode cX8_ask 8 = .ok (.iload_n 2, 1) := by decide +kernel
theorem dX8_ask_9 : decode cX8_ask 9 = .ok (.iconst 0, 1) := by decide +kernel
theorem dX8_ask_10 : decode cX8_ask 10 = .ok (.iconst 1, 1) := by decide +kernel
theorem dX8_ask_11 : decode cX8_ask 11 = .ok (.invokestatic 68, 3) := by decide +kernel
theorem dX8_ask_14 : decode cX8_ask 14 = .ok (.ifCond .ne 6, 3) := by decide +kernel
theorem dX8_ask_17 : decode cX8_ask 17 = .ok (.ldc 76, 2) := by decide +kernel
theorem dX8_ask_19 : decode cX8_ask 19 = .ok (.ireturn, 1) := by decide +kernel
theorem dX8_ask_20 : decode cX8_ask 20 = .ok (.aload_n 0, 1) := by decide +kernel
theorem dX8_ask_21 : decode cX8_ask 21 = .ok (.iconst 0, 1) := by decide +kernel
theorem dX8_ask_22 : decode cX8_ask 22 = .ok (.putfield 263, 3) := by decide +kernel
theorem dX8_ask_25 : decode cX8_ask 25 = .ok (.aload_n 0, 1) := by decide +kernel
theorem dX8_ask_26 : decode cX8_ask 26 = .ok (.iload_n 1, 1) := by decide +kernel
theorem dX8_ask_27 : decode cX8_ask 27 = .ok (.invokevirtual 260, 3) := by decide +kernel
theorem dX8_ask_30 : decode cX8_ask 30 = .ok (.iconst 4, 1) := by decide +kernel
theorem dX8_ask_31 : decode cX8_ask 31 = .ok (.if_icmp .lt 7, 3) := by decide +kernel
theorem dX8_ask_34 : decode cX8_ask 34 = .ok (.iconst 1, 1) := by decide +kernel
theorem dX8_ask_35 : decode cX8_ask 35 = .ok (.goto 4, 3) := by decide +kernel
theorem dX8_ask_38 : decode cX8_ask 38 = .ok (.iconst 0, 1) := by decide +kernel
theorem dX8_ask_39 : decode cX8_ask 39 = .ok (.istore_n 3, 1) := by decide +kernel
theorem dX8_ask_40 : decode cX8_ask 40 = .ok (.iload_n 2, 1) := by decide +kernel
theorem dX8_ask_41 : decode cX8_ask 41 = .ok (.ifCond .ne 21, 3) := by decide +kernel
theorem dX8_ask_44 : decode cX8_ask 44 = .ok (.iload_n 3, 1) := by decide +kernel
theorem dX8_ask_45 : decode cX8_ask 45 = .ok (.ifCond .eq 11, 3) := by decide +kernel
theorem dX8_ask_48 : decode cX8_ask 48 = .ok (.aload_n 0, 1) := by decide +kernel
theorem dX8_ask_49 : decode cX8_ask 49 = .ok (.iload_n 1, 1) := by decide +kernel
theorem dX8_ask_50 : decode cX8_ask 50 = .ok (.invokevirtual 273, 3) := by decide +kernel
theorem dX8_ask_53 : decode cX8_ask 53 = .ok (.goto 8, 3) := by decide +kernel
theorem dX8_ask_56 : decode cX8_ask 56 = .ok (.aload_n 0, 1) := by decide +kernel
theorem dX8_ask_57 : decode cX8_ask 57 = .ok (.iload_n 1, 1) := by decide +kernel
theorem dX8_ask_58 : decode cX8_ask 58 = .ok (.invokevirtual 276, 3) := by decide +kernel
theorem dX8_ask_61 : decode cX8_ask 61 = .ok (.ireturn, 1) := by decide +kernel
theorem dX8_ask_62 : decode cX8_ask 62 = .ok (.iload_n 3, 1) := by decide +kernel
theorem dX8_ask_63 : decode cX8_ask 63 = .ok (.ifCond .eq 11, 3) := by decide +kernel
theorem dX8_ask_66 : decode cX8_ask 66 = .ok (.aload_n 0, 1) := by decide +kernel
theorem dX8_ask_67 : decode cX8_ask 67 = .ok (.iload_n 1, 1) := by decide +kernel
theorem dX8_ask_68 : decode cX8_ask 68 = .ok (.invokevirtual 279, 3) := by decide +kernel
theorem dX8_ask_71 : decode cX8_ask 71 = .ok (.goto 8, 3) := by decide +kernel
theorem dX8_ask_74 : decode cX8_ask 74 = .ok (.aload_n 0, 1) := by decide +kernel
theorem dX8_ask_75 : decode cX8_ask 75 = .ok (.iload_n 1, 1) := by decide +kernel
theorem dX8_ask_76 : decode cX8_ask 76 = .ok (.invokevirtual 270, 3) := by decide +kernel
theorem dX8_ask_79 : decode cX8_ask 79 = .ok (.ireturn, 1) := by decide +kernel
theorem dX8_trace_0 : decode cX8_trace 0 = .ok (.iload_n 1, 1) := by decide +kernel
theorem dX8_trace_1 : decode cX8_trace 1 = .ok (.iconst 0, 1) := by decide +kernel
theorem dX8_trace_2 : decode cX8_trace 2 = .ok (.aload_n 0, 1) := by decide +kernel
theorem dX8_trace_3 : decode cX8_trace 3 = .ok (.getfield 263, 3) := by decide +kernel
theorem dX8_trace_6 : decode cX8_trace 6 = .ok (.iconst 1, 1) := by decide +kernel
theorem dX8_trace_7 : decode cX8_trace 7 = .ok (.isub, 1) := by decide +kernel
theorem dX8_trace_8 : decode cX8_trace 8 = .ok (.invokestatic 68, 3) := by decide +kernel
theorem dX8_trace_11 : decode cX8_trace 11 = .ok (.ifCond .eq 12, 3) := by decide +kernel
theorem dX8_trace_14 : decode cX8_trace 14 = .ok (.aload_n 0, 1) := by decide +kernel
theorem dX8_trace_15 : decode cX8_trace 15 = .ok (.getfield 59, 3) := by decide +kernel
theorem dX8_trace_18 : decode cX8_trace 18 = .ok (.iload_n 1, 1) := by decide +kernel
theorem dX8_trace_19 : decode cX8_trace 19 = .ok (.iaload, 1) := by decide +kernel
theorem dX8_trace_20 : decode cX8_trace 20 = .ok (.goto 5, 3) := by decide +kernel
theorem dX8_trace_23 : decode cX8_trace 23 = .ok (.ldc 62, 2) := by decide +kernel
theorem dX8_trace_25 : decode cX8_trace 25 = .ok (.ireturn, 1) := by decide +kernel
theorem dX8_count_0 : decode cX8_count 0 = .ok (.iconst 0, 1) := by decide +kernel
theorem dX8_count_1 : decode cX8_count 1 = .ok (.istore_n 2, 1) := by decide +kernel
theorem dX8_count_2 : decode cX8_count 2 = .ok (.iload_n 1, 1) := by decide +kernel
theorem dX8_count_3 : decode cX8_count 3 = .ok (.tableswitch 100 0 5 #[37, 69, 76, 83, 90, 95], 37) := by decide +kernel
theorem dX8_count_40 : decode cX8_count 40 = .ok (.iconst 0, 1) := by decide +kernel
theorem dX8_count_41 : decode cX8_count 41 = .ok (.istore_n 3, 1) := by decide +kernel
theorem dX8_count_42 : decode cX8_count 42 = .ok (.iload_n 3, 1) := by decide +kernel
theorem dX8_count_43 : decode cX8_count 43 = .ok (.bipush 8, 2) := by decide +kernel
theorem dX8_count_45 : decode cX8_count 45 = .ok (.if_icmp .ge 25, 3) := by decide +kernel
theorem dX8_count_48 : decode cX8_count 48 = .ok (.iload_n 2, 1) := by decide +kernel
theorem dX8_count_49 : decode cX8_count 49 = .ok (.aload_n 0, 1) := by decide +kernel
theorem dX8_count_50 : decode cX8_count 50 = .ok (.iload_n 3, 1) := by decide +kernel
theorem dX8_count_51 : decode cX8_count 51 = .ok (.invokevirtual 84, 3) := by decide +kernel
theorem dX8_count_54 : decode cX8_count 54 = .ok (.ifCond .eq 7, 3) := by decide +kernel
theorem dX8_count_57 : decode cX8_count 57 = .ok (.iconst 0, 1) := by decide +kernel
theorem dX8_count_58 : decode cX8_count 58 = .ok (.goto 4, 3) := by decide +kernel
theorem dX8_count_61 : decode cX8_count 61 = .ok (.iconst 1, 1) := by decide +kernel
theorem dX8_count_62 : decode cX8_count 62 = .ok (.iadd, 1) := by decide +kernel
theorem dX8_count_63 : decode cX8_count 63 = .ok (.istore_n 2, 1) := by decide +kernel
theorem dX8_count_64 : decode cX8_count 64 = .ok (.iinc 3 1, 3) := by decide +kernel
theorem dX8_count_67 : decode cX8_count 67 = .ok (.goto (-25), 3) := by decide +kernel
theorem dX8_count_70 : decode cX8_count 70 = .ok (.iload_n 2, 1) := by decide +kernel
theorem dX8_count_71 : decode cX8_count 71 = .ok (.ireturn, 1) := by decide +kernel
theorem dX8_count_72 : decode cX8_count 72 = .ok (.aload_n 0, 1) := by decide +kernel
theorem dX8_count_73 : decode cX8_count 73 = .ok (.getfield 25, 3) := by decide +kernel
theorem dX8_count_76 : decode cX8_count 76 = .ok (.iconst 1, 1) := by decide +kernel
theorem dX8_count_77 : decode cX8_count 77 = .ok (.iaload, 1) := by decide +kernel
theorem dX8_count_78 : decode cX8_count 78 = .ok (.ireturn, 1) := by decide +kernel
theorem dX8_count_79 : decode cX8_count 79 = .ok (.aload_n 0, 1) := by decide +kernel
theorem dX8_count_80 : decode cX8_count 80 = .ok (.getfield 25, 3) := by decide +kernel
theorem dX8_count_83 : decode cX8_count 83 = .ok (.iconst 2, 1) := by decide +kernel
theorem dX8_count_84 : decode cX8_count 84 = .ok (.iaload, 1) := by decide +kernel
theorem dX8_count_85 : decode cX8_count 85 = .ok (.ireturn, 1) := by decide +kernel
theorem dX8_count_86 : decode cX8_count 86 = .ok (.aload_n 0, 1) := by decide +kernel
theorem dX8_count_87 : decode cX8_count 87 = .ok (.getfield 25, 3) := by decide +kernel
theorem dX8_count_90 : decode cX8_count 90 = .ok (.iconst 0, 1) := by decide +kernel
theorem dX8_count_91 : decode cX8_count 91 = .ok (.iaload, 1) := by decide +kernel
theorem dX8_count_92 : decode cX8_count 92 = .ok (.ireturn, 1) := by decide +kernel
theorem dX8_count_93 : decode cX8_count 93 = .ok (.aload_n 0, 1) := by decide +kernel
theorem dX8_count_94 : decode cX8_count 94 = .ok (.getfield 151, 3) := by decide +kernel
theorem dX8_count_97 : decode cX8_count 97 = .ok (.ireturn, 1) := by decide +kernel
theorem dX8_count_98 : decode cX8_count 98 = .ok (.aload_n 0, 1) := by decide +kernel
theorem dX8_count_99 : decode cX8_count 99 = .ok (.getfield 94, 3) := by decide +kernel
theorem dX8_count_102 : decode cX8_count 102 = .ok (.ireturn, 1) := by decide +kernel
theorem dX8_count_103 : decode cX8_count 103 = .ok (.ldc 76, 2) := by decide +kernel
theorem dX8_count_105 : decode cX8_count 105 = .ok (.ireturn, 1) := by decide +kernel
theorem dX8_status_0 : decode cX8_status 0 = .ok (.aload_n 0, 1) := by decide +kernel
theorem dX8_status_1 : decode cX8_status 1 = .ok (.getfield 63, 3) := by decide +kernel
theorem dX8_status_4 : decode cX8_status 4 = .ok (.ireturn, 1) := by decide +kernel
