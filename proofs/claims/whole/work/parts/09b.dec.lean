/-! decode rows, printed by program -/
theorem dX7_init_0 : decode cX7_init 0 = .ok (.aload_n 0, 1) := by decide +kernel
theorem dX7_init_1 : decode cX7_init 1 = .ok (.invokespecial 1, 3) := by decide +kernel
theorem dX7_init_4 : decode cX7_init 4 = .ok (.aload_n 0, 1) := by decide +kernel
theorem dX7_init_5 : decode cX7_init 5 = .ok (.new 7, 3) := by decide +kernel
theorem dX7_init_8 : decode cX7_init 8 = .ok (.dup, 1) := by decide +kernel
theorem dX7_init_9 : decode cX7_init 9 = .ok (.invokespecial 9, 3) := by decide +kernel
theorem dX7_init_12 : decode cX7_init 12 = .ok (.putfield 10, 3) := by decide +kernel
theorem dX7_init_15 : decode cX7_init 15 = .ok (.aload_n 0, 1) := by decide +kernel
theorem dX7_init_16 : decode cX7_init 16 = .ok (.new 16, 3) := by decide +kernel
theorem dX7_init_19 : decode cX7_init 19 = .ok (.dup, 1) := by decide +kernel
theorem dX7_init_20 : decode cX7_init 20 = .ok (.invokespecial 18, 3) := by decide +kernel
theorem dX7_init_23 : decode cX7_init 23 = .ok (.putfield 19, 3) := by decide +kernel
theorem dX7_init_26 : decode cX7_init 26 = .ok (.aload_n 0, 1) := by decide +kernel
theorem dX7_init_27 : decode cX7_init 27 = .ok (.new 23, 3) := by decide +kernel
theorem dX7_init_30 : decode cX7_init 30 = .ok (.dup, 1) := by decide +kernel
theorem dX7_init_31 : decode cX7_init 31 = .ok (.invokespecial 25, 3) := by decide +kernel
theorem dX7_init_34 : decode cX7_init 34 = .ok (.putfield 26, 3) := by decide +kernel
theorem dX7_init_37 : decode cX7_init 37 = .ok (.aload_n 0, 1) := by decide +kernel
theorem dX7_init_38 : decode cX7_init 38 = .ok (.new 30, 3) := by decide +kernel
theorem dX7_init_41 : decode cX7_init 41 = .ok (.dup, 1) := by decide +kernel
theorem dX7_init_42 : decode cX7_init 42 = .ok (.invokespecial 32, 3) := by decide +kernel
theorem dX7_init_45 : decode cX7_init 45 = .ok (.putfield 33, 3) := by decide +kernel
theorem dX7_init_48 : decode cX7_init 48 = .ok (.aload_n 0, 1) := by decide +kernel
theorem dX7_init_49 : decode cX7_init 49 = .ok (.new 23, 3) := by decide +kernel
theorem dX7_init_52 : decode cX7_init 52 = .ok (.dup, 1) := by decide +kernel
theorem dX7_init_53 : decode cX7_init 53 = .ok (.invokespecial 25, 3) := by decide +kernel
theorem dX7_init_56 : decode cX7_init 56 = .ok (.putfield 37, 3) := by decide +kernel
theorem dX7_init_59 : decode cX7_init 59 = .ok (.aload_n 0, 1) := by decide +kernel
theorem dX7_init_60 : decode cX7_init 60 = .ok (.new 30, 3) := by decide +kernel
theorem dX7_init_63 : decode cX7_init 63 = .ok (.dup, 1) := by decide +kernel
theorem dX7_init_64 : decode cX7_init 64 = .ok (.invokespecial 32, 3) := by decide +kernel
theorem dX7_init_67 : decode cX7_init 67 = .ok (.putfield 40, 3) := by decide +kernel
theorem dX7_init_70 : decode cX7_init 70 = .ok (.aload_n 0, 1) := by decide +kernel
theorem dX7_init_71 : decode cX7_init 71 = .ok (.iconst 2, 1) := by decide +kernel
theorem dX7_init_72 : decode cX7_init 72 = .ok (.anewarray 23, 3) := by decide +kernel
theorem dX7_init_75 : decode cX7_init 75 = .ok (.putfield 43, 3) := by decide +kernel
theorem dX7_init_78 : decode cX7_init 78 = .ok (.aload_n 0, 1) := by decide +kernel
theorem dX7_init_79 : decode cX7_init 79 = .ok (.new 47, 3) := by decide +kernel
theorem dX7_init_82 : decode cX7_init 82 = .ok (.dup, 1) := by decide +kernel
theorem dX7_init_83 : decode cX7_init 83 = .ok (.invokespecial 49, 3) := by decide +kernel
theorem dX7_init_86 : decode cX7_init 86 = .ok (.putfield 50, 3) := by decide +kernel
theorem dX7_init_89 : decode cX7_init 89 = .ok (.aload_n 0, 1) := by decide +kernel
theorem dX7_init_90 : decode cX7_init 90 = .ok (.new 54, 3) := by decide +kernel
theorem dX7_init_93 : decode cX7_init 93 = .ok (.dup, 1) := by decide +kernel
theorem dX7_init_94 : decode cX7_init 94 = .ok (.invokespecial 56, 3) := by decide +kernel
theorem dX7_init_97 : decode cX7_init 97 = .ok (.putfield 57, 3) := by decide +kernel
theorem dX7_init_100 : decode cX7_init 100 = .ok (.aload_n 0, 1) := by decide +kernel
theorem dX7_init_101 : decode cX7_init 101 = .ok (.iconst 1, 1) := by decide +kernel
theorem dX7_init_102 : decode cX7_init 102 = .ok (.putfield 61, 3) := by decide +kernel
theorem dX7_init_105 : decode cX7_init 105 = .ok (.aload_n 0, 1) := by decide +kernel
theorem dX7_init_106 : decode cX7_init 106 = .ok (.iconst 1, 1) := by decide +kernel
theorem dX7_init_107 : decode cX7_init 107 = .ok (.putfield 65, 3) := by decide +kernel
theorem dX7_init_110 : decode cX7_init 110 = .ok (.aload_n 0, 1) := by decide +kernel
theorem dX7_init_111 : decode cX7_init 111 = .ok (.iconst 0, 1) := by decide +kernel
theorem dX7_init_112 : decode cX7_init 112 = .ok (.putfield 68, 3) := by decide +kernel
theorem dX7_init_115 : decode cX7_init 115 = .ok (.aload_n 0, 1) := by decide +kernel
theorem dX7_init_116 : decode cX7_init 116 = .ok (.iconst 0, 1) := by decide +kernel
theorem dX7_init_117 : decode cX7_init 117 = .ok (.putfield 72, 3) := by decide +kernel
theorem dX7_init_120 : decode cX7_init 120 = .ok (.aload_n 0, 1) := by decide +kernel
theorem dX7_init_121 : decode cX7_init 121 = .ok (.iconst 0, 1) := by decide +kernel
theorem dX7_init_122 : decode cX7_init 122 = .ok (.putfield 75, 3) := by decide +kernel
theorem dX7_init_125 : decode cX7_init 125 = .ok (.aload_n 0, 1) := by decide +kernel
theorem dX7_init_126 : decode cX7_init 126 = .ok (.iconst 0, 1) := by decide +kernel
theorem dX7_init_127 : decode cX7_init 127 = .ok (.putfield 78, 3) := by decide +kernel
theorem dX7_init_130 : decode cX7_init 130 = .ok (.iconst 0, 1) := by decide +kernel
theorem dX7_init_131 : decode cX7_init 131 = .ok (.istore_n 1, 1) := by decide +kernel
theorem dX7_init_132 : decode cX7_init 132 = .ok (.iload_n 1, 1) := by decide +kernel
theorem dX7_init_133 : decode cX7_init 133 = .ok (.iconst 2, 1) := by decide +kernel
theorem dX7_init_134 : decode cX7_init 134 = .ok (.if_icmp .ge 22, 3) := by decide +kernel
theorem dX7_init_137 : decode cX7_init 137 = .ok (.aload_n 0, 1) := by decide +kernel
theorem dX7_init_138 : decode cX7_init 138 = .ok (.getfield 43, 3) := by decide +kernel
theorem dX7_init_141 : decode cX7_init 141 = .ok (.iload_n 1, 1) := by decide +kernel
theorem dX7_init_142 : decode cX7_init 142 = .ok (.new 23, 3) := by decide +kernel
theorem dX7_init_145 : decode cX7_init 145 = .ok (.dup, 1) := by decide +kernel
theorem dX7_init_146 : decode cX7_init 146 = .ok (.invokespecial 25, 3) := by decide +kernel
theorem dX7_init_149 : decode cX7_init 149 = .ok (.aastore, 1) := by decide +kernel
theorem dX7_init_150 : decode cX7_init 150 = .ok (.iinc 1 1, 3) := by decide +kernel
theorem dX7_init_153 : decode cX7_init 153 = .ok (.goto (-21), 3) := by decide +kernel
theorem dX7_init_156 : decode cX7_init 156 = .ok (.return_, 1) := by decide +kernel
theorem dX7_row_0 : decode cX7_row 0 = .ok (.iload_n 1, 1) := by decide +kernel
theorem dX7_row_1 : decode cX7_row 1 = .ok (.invokestatic 81, 3) := by decide +kernel
theorem dX7_row_4 : decode cX7_row 4 = .ok (.ifCond .eq 18, 3) := by decide +kernel
theorem dX7_row_7 : decode cX7_row 7 = .ok (.iload_n 2, 1) := by decide +kernel
theorem dX7_row_8 : decode cX7_row 8 = .ok (.ifCond .lt 14, 3) := by decide +kernel
theorem dX7_row_11 : decode cX7_row 11 = .ok (.iload_n 2, 1) := by decide +kernel
theorem dX7_row_12 : decode cX7_row 12 = .ok (.iconst 2, 1) := by decide +kernel
theorem dX7_row_13 : decode cX7_row 13 = .ok (.if_icmp .gt 9, 3) := by decide +kernel
theorem dX7_row_16 : decode cX7_row 16 = .ok (.iload_n 3, 1) := by decide +kernel
theorem dX7_row_17 : decode cX7_row 17 = .ok (.bipush 40, 2) := by decide +kernel
theorem dX7_row_19 : decode cX7_row 19 = .ok (.if_icmp .le 6, 3) := by decide +kernel
theorem dX7_row_22 : decode cX7_row 22 = .ok (.ldc 85, 2) := by decide +kernel
theorem dX7_row_24 : decode cX7_row 24 = .ok (.ireturn, 1) := by decide +kernel
theorem dX7_row_25 : decode cX7_row 25 = .ok (.iload_n 3, 1) := by decide +kernel
theorem dX7_row_26 : decode cX7_row 26 = .ok (.ifCond .ge 9, 3) := by decide +kernel
theorem dX7_row_29 : decode cX7_row 29 = .ok (.aload_n 0, 1) := by decide +kernel
theorem dX7_row_30 : decode cX7_row 30 = .ok (.iconst 4, 1) := by decide +kernel
theorem dX7_row_31 : decode cX7_row 31 = .ok (.invokevirtual 86, 3) := by decide +kernel
theorem dX7_row_34 : decode cX7_row 34 = .ok (.ireturn, 1) := by decide +kernel
theorem dX7_row_35 : decode cX7_row 35 = .ok (.aload_n 0, 1) := by decide +kernel
theorem dX7_row_36 : decode cX7_row 36 = .ok (.getfield 10, 3) := by decide +kernel
theorem dX7_row_39 : decode cX7_row 39 = .ok (.iload_n 1, 1) := by decide +kernel
theorem dX7_row_40 : decode cX7_row 40 = .ok (.iload_n 2, 1) := by decide +kernel
theorem dX7_row_41 : decode cX7_row 41 = .ok (.iload_n 3, 1) := by decide +kernel
theorem dX7_row_42 : decode cX7_row 42 = .ok (.invokevirtual 90, 3) := by decide +kernel
theorem dX7_row_45 : decode cX7_row 45 = .ok (.aload_n 0, 1) := by decide +kernel
theorem dX7_row_46 : decode cX7_row 46 = .ok (.iload_n 3, 1) := by decide +kernel
theorem dX7_row_47 : decode cX7_row 47 = .ok (.invokevirtual 94, 3) := by decide +kernel
theorem dX7_row_50 : decode cX7_row 50 = .ok (.ireturn, 1) := by decide +kernel
theorem dX7_set_0 : decode cX7_set 0 = .ok (.iload_n 1, 1) := by decide +kernel
theorem dX7_set_1 : decode cX7_set 1 = .ok (.invokestatic 81, 3) := by decide +kernel
theorem dX7_set_4 : decode cX7_set 4 = .ok (.ifCond .ne 6, 3) := by decide +kernel
theorem dX7_set_7 : decode cX7_set 7 = .ok (.ldc 85, 2) := by decide +kernel
theorem dX7_set_9 : decode cX7_set 9 = .ok (.ireturn, 1) := by decide +kernel
theorem dX7_set_10 : decode cX7_set 10 = .ok (.aload_n 0, 1) := by decide +kernel
theorem dX7_set_11 : decode cX7_set 11 = .ok (.getfield 10, 3) := by decide +kernel
theorem dX7_set_14 : decode cX7_set 14 = .ok (.iload_n 1, 1) := by decide +kernel
theorem dX7_set_15 : decode cX7_set 15 = .ok (.invokevirtual 97, 3) := by decide +kernel
theorem dX7_set_18 : decode cX7_set 18 = .ok (.ifCond .eq 9, 3) := by decide +kernel
theorem dX7_set_21 : decode cX7_set 21 = .ok (.aload_n 0, 1) := by decide +kernel
theorem dX7_set_22 : decode cX7_set 22 = .ok (.iconst 1, 1) := by decide +kernel
theorem dX7_set_23 : decode cX7_set 23 = .ok (.invokevirtual 86, 3) := by decide +kernel
theorem dX7_set_26 : decode cX7_set 26 = .ok (.ireturn, 1) := by decide +kernel
theorem dX7_set_27 : decode cX7_set 27 = .ok (.aload_n 0, 1) := by decide +kernel
theorem dX7_set_28 : decode cX7_set 28 = .ok (.getfield 10, 3) := by decide +kernel
theorem dX7_set_31 : decode cX7_set 31 = .ok (.iload_n 1, 1) := by decide +kernel
theorem dX7_set_32 : decode cX7_set 32 = .ok (.iload_n 2, 1) := by decide +kernel
theorem dX7_set_33 : decode cX7_set 33 = .ok (.iconst 1, 1) := by decide +kernel
theorem dX7_set_34 : decode cX7_set 34 = .ok (.invokevirtual 100, 3) := by decide +kernel
theorem dX7_set_37 : decode cX7_set 37 = .ok (.ifCond .ne 9, 3) := by decide +kernel
theorem dX7_set_40 : decode cX7_set 40 = .ok (.aload_n 0, 1) := by decide +kernel
theorem dX7_set_41 : decode cX7_set 41 = .ok (.iconst 2, 1) := by decide +kernel
theorem dX7_set_42 : decode cX7_set 42 = .ok (.invokevirtual 86, 3) := by decide +kernel
theorem dX7_set_45 : decode cX7_set 45 = .ok (.ireturn, 1) := by decide +kernel
theorem dX7_set_46 : decode cX7_set 46 = .ok (.aload_n 0, 1) := by decide +kernel
theorem dX7_set_47 : decode cX7_set 47 = .ok (.aload_n 0, 1) := by decide +kernel
theorem dX7_set_48 : decode cX7_set 48 = .ok (.getfield 10, 3) := by decide +kernel
theorem dX7_set_51 : decode cX7_set 51 = .ok (.iload_n 1, 1) := by decide +kernel
theorem dX7_set_52 : decode cX7_set 52 = .ok (.iload_n 2, 1) := by decide +kernel
theorem dX7_set_53 : decode cX7_set 53 = .ok (.iload_n 3, 1) := by decide +kernel
theorem dX7_set_54 : decode cX7_set 54 = .ok (.invokevirtual 104, 3) := by decide +kernel
theorem dX7_set_57 : decode cX7_set 57 = .ok (.invokevirtual 94, 3) := by decide +kernel
theorem dX7_set_60 : decode cX7_set 60 = .ok (.ireturn, 1) := by decide +kernel
theorem dX7_copy_0 : decode cX7_copy 0 = .ok (.iload_n 1, 1) := by decide +kernel
theorem dX7_copy_1 : decode cX7_copy 1 = .ok (.invokestatic 81, 3) := by decide +kernel
theorem dX7_copy_4 : decode cX7_copy 4 = .ok (.ifCond .eq 10, 3) := by decide +kernel
theorem dX7_copy_7 : decode cX7_copy 7 = .ok (.iload_n 3, 1) := by decide +kernel
theorem dX7_copy_8 : decode cX7_copy 8 = .ok (.invokestatic 81, 3) := by decide +kernel
theorem dX7_copy_11 : decode cX7_copy 11 = .ok (.ifCond .ne 6, 3) := by decide +kernel
theorem dX7_copy_14 : decode cX7_copy 14 = .ok (.ldc 85, 2) := by decide +kernel
theorem dX7_copy_16 : decode cX7_copy 16 = .ok (.ireturn, 1) := by decide +kernel
theorem dX7_copy_17 : decode cX7_copy 17 = .ok (.aload_n 0, 1) := by decide +kernel
theorem dX7_copy_18 : decode cX7_copy 18 = .ok (.getfield 10, 3) := by decide +kernel
theorem dX7_copy_21 : decode cX7_copy 21 = .ok (.iload_n 1, 1) := by decide +kernel
theorem dX7_copy_22 : decode cX7_copy 22 = .ok (.invokevirtual 97, 3) := by decide +kernel
theorem dX7_copy_25 : decode cX7_copy 25 = .ok (.ifCond .ne 14, 3) := by decide +kernel
theorem dX7_copy_28 : decode cX7_copy 28 = .ok (.aload_n 0, 1) := by decide +kernel
theorem dX7_copy_29 : decode cX7_copy 29 = .ok (.getfield 10, 3) := by decide +kernel
theorem dX7_copy_32 : decode cX7_copy 32 = .ok (.iload_n 3, 1) := by decide +kernel
theorem dX7_copy_33 : decode cX7_copy 33 = .ok (.invokevirtual 97, 3) := by decide +kernel
theorem dX7_copy_36 : decode cX7_copy 36 = .ok (.ifCond .eq 9, 3) := by decide +kernel
theorem dX7_copy_39 : decode cX7_copy 39 = .ok (.aload_n 0, 1) := by decide +kernel
theorem dX7_copy_40 : decode cX7_copy 40 = .ok (.iconst 1, 1) := by decide +kernel
theorem dX7_copy_41 : decode cX7_copy 41 = .ok (.invokevirtual 86, 3) := by decide +kernel
theorem dX7_copy_44 : decode cX7_copy 44 = .ok (.ireturn, 1) := by decide +kernel
theorem dX7_copy_45 : decode cX7_copy 45 = .ok (.aload_n 0, 1) := by decide +kernel
theorem dX7_copy_46 : decode cX7_copy 46 = .ok (.getfield 10, 3) := by decide +kernel
theorem dX7_copy_49 : decode cX7_copy 49 = .ok (.iload_n 1, 1) := by decide +kernel
theorem dX7_copy_50 : decode cX7_copy 50 = .ok (.iload_n 3, 1) := by decide +kernel
theorem dX7_copy_51 : decode cX7_copy 51 = .ok (.invokevirtual 108, 3) := by decide +kernel
theorem dX7_copy_54 : decode cX7_copy 54 = .ok (.ifCond .ne 9, 3) := by decide +kernel
theorem dX7_copy_57 : decode cX7_copy 57 = .ok (.aload_n 0, 1) := by decide +kernel
theorem dX7_copy_58 : decode cX7_copy 58 = .ok (.iconst 5, 1) := by decide +kernel
theorem dX7_copy_59 : decode cX7_copy 59 = .ok (.invokevirtual 86, 3) := by decide +kernel
theorem dX7_copy_62 : decode cX7_copy 62 = .ok (.ireturn, 1) := by decide +kernel
theorem dX7_copy_63 : decode cX7_copy 63 = .ok (.aload_n 0, 1) := by decide +kernel
theorem dX7_copy_64 : decode cX7_copy 64 = .ok (.getfield 10, 3) := by decide +kernel
theorem dX7_copy_67 : decode cX7_copy 67 = .ok (.iload_n 1, 1) := by decide +kernel
theorem dX7_copy_68 : decode cX7_copy 68 = .ok (.iload_n 2, 1) := by decide +kernel
theorem dX7_copy_69 : decode cX7_copy 69 = .ok (.iload 5, 2) := by decide +kernel
theorem dX7_copy_71 : decode cX7_copy 71 = .ok (.invokevirtual 100, 3) := by decide +kernel
theorem dX7_copy_74 : decode cX7_copy 74 = .ok (.ifCond .eq 18, 3) := by decide +kernel
theorem dX7_copy_77 : decode cX7_copy 77 = .ok (.aload_n 0, 1) := by decide +kernel
theorem dX7_copy_78 : decode cX7_copy 78 = .ok (.getfield 10, 3) := by decide +kernel
theorem dX7_copy_81 : decode cX7_copy 81 = .ok (.iload_n 3, 1) := by decide +kernel
theorem dX7_copy_82 : decode cX7_copy 82 = .ok (.iload 4, 2) := by decide +kernel
theorem dX7_copy_84 : decode cX7_copy 84 = .ok (.iload 5, 2) := by decide +kernel
theorem dX7_copy_86 : decode cX7_copy 86 = .ok (.invokevirtual 100, 3) := by decide +kernel
theorem dX7_copy_89 : decode cX7_copy 89 = .ok (.ifCond .ne 9, 3) := by decide +kernel
theorem dX7_copy_92 : decode cX7_copy 92 = .ok (.aload_n 0, 1) := by decide +kernel
theorem dX7_copy_93 : decode cX7_copy 93 = .ok (.iconst 2, 1) := by decide +kernel
theorem dX7_copy_94 : decode cX7_copy 94 = .ok (.invokevirtual 86, 3) := by decide +kernel
theorem dX7_copy_97 : decode cX7_copy 97 = .ok (.ireturn, 1) := by decide +kernel
theorem dX7_copy_98 : decode cX7_copy 98 = .ok (.aload_n 0, 1) := by decide +kernel
theorem dX7_copy_99 : decode cX7_copy 99 = .ok (.getfield 10, 3) := by decide +kernel
theorem dX7_copy_102 : decode cX7_copy 102 = .ok (.iload_n 1, 1) := by decide +kernel
theorem dX7_copy_103 : decode cX7_copy 103 = .ok (.iload_n 2, 1) := by decide +kernel
theorem dX7_copy_104 : decode cX7_copy 104 = .ok (.iload_n 3, 1) := by decide +kernel
theorem dX7_copy_105 : decode cX7_copy 105 = .ok (.iload 4, 2) := by decide +kernel
theorem dX7_copy_107 : decode cX7_copy 107 = .ok (.iload 5, 2) := by decide +kernel
theorem dX7_copy_109 : decode cX7_copy 109 = .ok (.invokevirtual 112, 3) := by decide +kernel
theorem dX7_copy_112 : decode cX7_copy 112 = .ok (.aload_n 0, 1) := by decide +kernel
theorem dX7_copy_113 : decode cX7_copy 113 = .ok (.iload 5, 2) := by decide +kernel
theorem dX7_copy_115 : decode cX7_copy 115 = .ok (.invokevirtual 94, 3) := by decide +kernel
theorem dX7_copy_118 : decode cX7_copy 118 = .ok (.ireturn, 1) := by decide +kernel
theorem dX7_drop_0 : decode cX7_drop 0 = .ok (.iload_n 1, 1) := by decide +kernel
theorem dX7_drop_1 : decode cX7_drop 1 = .ok (.invokestatic 81, 3) := by decide +kernel
theorem dX7_drop_4 : decode cX7_drop 4 = .ok (.ifCond .ne 6, 3) := by decide +kernel
theorem dX7_drop_7 : decode cX7_drop 7 = .ok (.ldc 85, 2) := by decide +kernel
theorem dX7_drop_9 : decode cX7_drop 9 = .ok (.ireturn, 1) := by decide +kernel
theorem dX7_drop_10 : decode cX7_drop 10 = .ok (.aload_n 0, 1) := by decide +kernel
theorem dX7_drop_11 : decode cX7_drop 11 = .ok (.getfield 10, 3) := by decide +kernel
theorem dX7_drop_14 : decode cX7_drop 14 = .ok (.iload_n 1, 1) := by decide +kernel
theorem dX7_drop_15 : decode cX7_drop 15 = .ok (.invokevirtual 97, 3) := by decide +kernel
theorem dX7_drop_18 : decode cX7_drop 18 = .ok (.ifCond .eq 9, 3) := by decide +kernel
theorem dX7_drop_21 : decode cX7_drop 21 = .ok (.aload_n 0, 1) := by decide +kernel
theorem dX7_drop_22 : decode cX7_drop 22 = .ok (.iconst 1, 1) := by decide +kernel
theorem dX7_drop_23 : decode cX7_drop 23 = .ok (.invokevirtual 86, 3) := by decide +kernel
theorem dX7_drop_26 : decode cX7_drop 26 = .ok (.ireturn, 1) := by decide +kernel
theorem dX7_drop_27 : decode cX7_drop 27 = .ok (.aload_n 0, 1) := by decide +kernel
theorem dX7_drop_28 : decode cX7_drop 28 = .ok (.aload_n 0, 1) := by decide +kernel
theorem dX7_drop_29 : decode cX7_drop 29 = .ok (.getfield 10, 3) := by decide +kernel
theorem dX7_drop_32 : decode cX7_drop 32 = .ok (.iload_n 1, 1) := by decide +kernel
theorem dX7_drop_33 : decode cX7_drop 33 = .ok (.invokevirtual 116, 3) := by decide +kernel
theorem dX7_drop_36 : decode cX7_drop 36 = .ok (.invokevirtual 94, 3) := by decide +kernel
theorem dX7_drop_39 : decode cX7_drop 39 = .ok (.ireturn, 1) := by decide +kernel
theorem dX7_feed_0 : decode cX7_feed 0 = .ok (.iload_n 1, 1) := by decide +kernel
theorem dX7_feed_1 : decode cX7_feed 1 = .ok (.ifCond .lt 10, 3) := by decide +kernel
theorem dX7_feed_4 : decode cX7_feed 4 = .ok (.iload_n 1, 1) := by decide +kernel
theorem dX7_feed_5 : decode cX7_feed 5 = .ok (.sipush 255, 3) := by decide +kernel
theorem dX7_feed_8 : decode cX7_feed 8 = .ok (.if_icmp .le 6, 3) := by decide +kernel
theorem dX7_feed_11 : decode cX7_feed 11 = .ok (.ldc 85, 2) := by decide +kernel
theorem dX7_feed_13 : decode cX7_feed 13 = .ok (.ireturn, 1) := by decide +kernel
theorem dX7_feed_14 : decode cX7_feed 14 = .ok (.aload_n 0, 1) := by decide +kernel
theorem dX7_feed_15 : decode cX7_feed 15 = .ok (.getfield 19, 3) := by decide +kernel
theorem dX7_feed_18 : decode cX7_feed 18 = .ok (.getfield 119, 3) := by decide +kernel
theorem dX7_feed_21 : decode cX7_feed 21 = .ok (.sipush 130, 3) := by decide +kernel
theorem dX7_feed_24 : decode cX7_feed 24 = .ok (.if_icmp .ne 6, 3) := by decide +kernel
theorem dX7_feed_27 : decode cX7_feed 27 = .ok (.ldc 122, 2) := by decide +kernel
theorem dX7_feed_29 : decode cX7_feed 29 = .ok (.ireturn, 1) := by decide +kernel
theorem dX7_feed_30 : decode cX7_feed 30 = .ok (.aload_n 0, 1) := by decide +kernel
theorem dX7_feed_31 : decode cX7_feed 31 = .ok (.getfield 19, 3) := by decide +kernel
theorem dX7_feed_34 : decode cX7_feed 34 = .ok (.iload_n 1, 1) := by decide +kernel
theorem dX7_feed_35 : decode cX7_feed 35 = .ok (.invokevirtual 123, 3) := by decide +kernel
theorem dX7_feed_38 : decode cX7_feed 38 = .ok (.aload_n 0, 1) := by decide +kernel
theorem dX7_feed_39 : decode cX7_feed 39 = .ok (.getfield 19, 3) := by decide +kernel
theorem dX7_feed_42 : decode cX7_feed 42 = .ok (.getfield 119, 3) := by decide +kernel
theorem dX7_feed_45 : decode cX7_feed 45 = .ok (.ireturn, 1) := by decide +kernel
theorem dX7_piece_0 : decode cX7_piece 0 = .ok (.aload_n 0, 1) := by decide +kernel
theorem dX7_piece_1 : decode cX7_piece 1 = .ok (.getfield 19, 3) := by decide +kernel
theorem dX7_piece_4 : decode cX7_piece 4 = .ok (.aload_n 0, 1) := by decide +kernel
theorem dX7_piece_5 : decode cX7_piece 5 = .ok (.getfield 37, 3) := by decide +kernel
theorem dX7_piece_8 : decode cX7_piece 8 = .ok (.invokevirtual 126, 3) := by decide +kernel
theorem dX7_piece_11 : decode cX7_piece 11 = .ok (.istore_n 1, 1) := by decide +kernel
theorem dX7_piece_12 : decode cX7_piece 12 = .ok (.aload_n 0, 1) := by decide +kernel
theorem dX7_piece_13 : decode cX7_piece 13 = .ok (.getfield 19, 3) := by decide +kernel
theorem dX7_piece_16 : decode cX7_piece 16 = .ok (.iconst 0, 1) := by decide +kernel
theorem dX7_piece_17 : decode cX7_piece 17 = .ok (.putfield 119, 3) := by decide +kernel
theorem dX7_piece_20 : decode cX7_piece 20 = .ok (.iload_n 1, 1) := by decide +kernel
theorem dX7_piece_21 : decode cX7_piece 21 = .ok (.ifCond .eq 19, 3) := by decide +kernel
theorem dX7_piece_24 : decode cX7_piece 24 = .ok (.aload_n 0, 1) := by decide +kernel
theorem dX7_piece_25 : decode cX7_piece 25 = .ok (.iload_n 1, 1) := by decide +kernel
theorem dX7_piece_26 : decode cX7_piece 26 = .ok (.putfield 75, 3) := by decide +kernel
theorem dX7_piece_29 : decode cX7_piece 29 = .ok (.ldc 130, 2) := by decide +kernel
theorem dX7_piece_31 : decode cX7_piece 31 = .ok (.aload_n 0, 1) := by decide +kernel
theorem dX7_piece_32 : decode cX7_piece 32 = .ok (.getfield 19, 3) := by decide +kernel
theorem dX7_piece_35 : decode cX7_piece 35 = .ok (.getfield 131, 3) := by decide +kernel
theorem dX7_piece_38 : decode cX7_piece 38 = .ok (.isub, 1) := by decide +kernel
theorem dX7_piece_39 : decode cX7_piece 39 = .ok (.ireturn, 1) := by decide +kernel
theorem dX7_piece_40 : decode cX7_piece 40 = .ok (.aload_n 0, 1) := by decide +kernel
theorem dX7_piece_41 : decode cX7_piece 41 = .ok (.getfield 26, 3) := by decide +kernel
theorem dX7_piece_44 : decode cX7_piece 44 = .ok (.aload_n 0, 1) := by decide +kernel
theorem dX7_piece_45 : decode cX7_piece 45 = .ok (.getfield 37, 3) := by decide +kernel
theorem dX7_piece_48 : decode cX7_piece 48 = .ok (.invokevirtual 134, 3) := by decide +kernel
theorem dX7_piece_51 : decode cX7_piece 51 = .ok (.aload_n 0, 1) := by decide +kernel
theorem dX7_piece_52 : decode cX7_piece 52 = .ok (.getfield 50, 3) := by decide +kernel
theorem dX7_piece_55 : decode cX7_piece 55 = .ok (.invokevirtual 138, 3) := by decide +kernel
theorem dX7_piece_58 : decode cX7_piece 58 = .ok (.aload_n 0, 1) := by decide +kernel
theorem dX7_piece_59 : decode cX7_piece 59 = .ok (.invokevirtual 141, 3) := by decide +kernel
theorem dX7_piece_62 : decode cX7_piece 62 = .ok (.aload_n 0, 1) := by decide +kernel
theorem dX7_piece_63 : decode cX7_piece 63 = .ok (.getfield 26, 3) := by decide +kernel
theorem dX7_piece_66 : decode cX7_piece 66 = .ok (.getfield 144, 3) := by decide +kernel
theorem dX7_piece_69 : decode cX7_piece 69 = .ok (.ireturn, 1) := by decide +kernel
theorem dX7_fault_0 : decode cX7_fault 0 = .ok (.aload_n 0, 1) := by decide +kernel
theorem dX7_fault_1 : decode cX7_fault 1 = .ok (.getfield 75, 3) := by decide +kernel
theorem dX7_fault_4 : decode cX7_fault 4 = .ok (.ireturn, 1) := by decide +kernel
theorem dX7_key_0 : decode cX7_key 0 = .ok (.aload_n 0, 1) := by decide +kernel
theorem dX7_key_1 : decode cX7_key 1 = .ok (.iload_n 1, 1) := by decide +kernel
theorem dX7_key_2 : decode cX7_key 2 = .ok (.invokevirtual 147, 3) := by decide +kernel
theorem dX7_key_5 : decode cX7_key 5 = .ok (.ifCond .eq 10, 3) := by decide +kernel
theorem dX7_key_8 : decode cX7_key 8 = .ok (.iload_n 2, 1) := by decide +kernel
theorem dX7_key_9 : decode cX7_key 9 = .ok (.invokestatic 150, 3) := by decide +kernel
theorem dX7_key_12 : decode cX7_key 12 = .ok (.ifCond .ne 6, 3) := by decide +kernel
theorem dX7_key_15 : decode cX7_key 15 = .ok (.ldc 85, 2) := by decide +kernel
theorem dX7_key_17 : decode cX7_key 17 = .ok (.ireturn, 1) := by decide +kernel
theorem dX7_key_18 : decode cX7_key 18 = .ok (.aload_n 0, 1) := by decide +kernel
theorem dX7_key_19 : decode cX7_key 19 = .ok (.getfield 26, 3) := by decide +kernel
theorem dX7_key_22 : decode cX7_key 22 = .ok (.getfield 153, 3) := by decide +kernel
theorem dX7_key_25 : decode cX7_key 25 = .ok (.iload_n 1, 1) := by decide +kernel
theorem dX7_key_26 : decode cX7_key 26 = .ok (.iaload, 1) := by decide +kernel
theorem dX7_key_27 : decode cX7_key 27 = .ok (.istore_n 3, 1) := by decide +kernel
theorem dX7_key_28 : decode cX7_key 28 = .ok (.iload_n 3, 1) := by decide +kernel
theorem dX7_key_29 : decode cX7_key 29 = .ok (.iload_n 2, 1) := by decide +kernel
theorem dX7_key_30 : decode cX7_key 30 = .ok (.if_icmp .ne 6, 3) := by decide +kernel
theorem dX7_key_33 : decode cX7_key 33 = .ok (.ldc 157, 2) := by decide +kernel
theorem dX7_key_35 : decode cX7_key 35 = .ok (.ireturn, 1) := by decide +kernel
theorem dX7_key_36 : decode cX7_key 36 = .ok (.aload_n 0, 1) := by decide +kernel
theorem dX7_key_37 : decode cX7_key 37 = .ok (.getfield 26, 3) := by decide +kernel
theorem dX7_key_40 : decode cX7_key 40 = .ok (.getfield 153, 3) := by decide +kernel
theorem dX7_key_43 : decode cX7_key 43 = .ok (.iload_n 1, 1) := by decide +kernel
theorem dX7_key_44 : decode cX7_key 44 = .ok (.iload_n 2, 1) := by decide +kernel
theorem dX7_key_45 : decode cX7_key 45 = .ok (.iastore, 1) := by decide +kernel
theorem dX7_key_46 : decode cX7_key 46 = .ok (.aload_n 0, 1) := by decide +kernel
theorem dX7_key_47 : decode cX7_key 47 = .ok (.iconst 0, 1) := by decide +kernel
theorem dX7_key_48 : decode cX7_key 48 = .ok (.iload_n 1, 1) := by decide +kernel
theorem dX7_key_49 : decode cX7_key 49 = .ok (.iload_n 3, 1) := by decide +kernel
theorem dX7_key_50 : decode cX7_key 50 = .ok (.invokevirtual 158, 3) := by decide +kernel
theorem dX7_key_53 : decode cX7_key 53 = .ok (.iload_n 3, 1) := by decide +kernel
theorem dX7_key_54 : decode cX7_key 54 = .ok (.ireturn, 1) := by decide +kernel
theorem dX7_become_0 : decode cX7_become 0 = .ok (.aload_n 0, 1) := by decide +kernel
theorem dX7_become_1 : decode cX7_become 1 = .ok (.iload_n 1, 1) := by decide +kernel
theorem dX7_become_2 : decode cX7_become 2 = .ok (.invokevirtual 161, 3) := by decide +kernel
theorem dX7_become_5 : decode cX7_become 5 = .ok (.ifCond .eq 13, 3) := by decide +kernel
theorem dX7_become_8 : decode cX7_become 8 = .ok (.iload_n 2, 1) := by decide +kernel
theorem dX7_become_9 : decode cX7_become 9 = .ok (.iconst 1, 1) := by decide +kernel
theorem dX7_become_10 : decode cX7_become 10 = .ok (.if_icmp .lt 8, 3) := by decide +kernel
theorem dX7_become_13 : decode cX7_become 13 = .ok (.iload_n 2, 1) := by decide +kernel
theorem dX7_become_14 : decode cX7_become 14 = .ok (.iconst 5, 1) := by decide +kernel
theorem dX7_become_15 : decode cX7_become 15 = .ok (.if_icmp .le 6, 3) := by decide +kernel
theorem dX7_become_18 : decode cX7_become 18 = .ok (.ldc 85, 2) := by decide +kernel
theorem dX7_become_20 : decode cX7_become 20 = .ok (.ireturn, 1) := by decide +kernel
theorem dX7_become_21 : decode cX7_become 21 = .ok (.aload_n 0, 1) := by decide +kernel
theorem dX7_become_22 : decode cX7_become 22 = .ok (.getfield 26, 3) := by decide +kernel
theorem dX7_become_25 : decode cX7_become 25 = .ok (.getfield 164, 3) := by decide +kernel
theorem dX7_become_28 : decode cX7_become 28 = .ok (.iload_n 1, 1) := by decide +kernel
theorem dX7_become_29 : decode cX7_become 29 = .ok (.iaload, 1) := by decide +kernel
theorem dX7_become_30 : decode cX7_become 30 = .ok (.istore_n 3, 1) := by decide +kernel
theorem dX7_become_31 : decode cX7_become 31 = .ok (.iload_n 3, 1) := by decide +kernel
theorem dX7_become_32 : decode cX7_become 32 = .ok (.iload_n 2, 1) := by decide +kernel
theorem dX7_become_33 : decode cX7_become 33 = .ok (.if_icmp .ne 6, 3) := by decide +kernel
theorem dX7_become_36 : decode cX7_become 36 = .ok (.ldc 157, 2) := by decide +kernel
theorem dX7_become_38 : decode cX7_become 38 = .ok (.ireturn, 1) := by decide +kernel
theorem dX7_become_39 : decode cX7_become 39 = .ok (.aload_n 0, 1) := by decide +kernel
theorem dX7_become_40 : decode cX7_become 40 = .ok (.getfield 26, 3) := by decide +kernel
theorem dX7_become_43 : decode cX7_become 43 = .ok (.getfield 164, 3) := by decide +kernel
theorem dX7_become_46 : decode cX7_become 46 = .ok (.iload_n 1, 1) := by decide +kernel
theorem dX7_become_47 : decode cX7_become 47 = .ok (.iload_n 2, 1) := by decide +kernel
theorem dX7_become_48 : decode cX7_become 48 = .ok (.iastore, 1) := by decide +kernel
theorem dX7_become_49 : decode cX7_become 49 = .ok (.aload_n 0, 1) := by decide +kernel
theorem dX7_become_50 : decode cX7_become 50 = .ok (.iconst 1, 1) := by decide +kernel
theorem dX7_become_51 : decode cX7_become 51 = .ok (.iload_n 1, 1) := by decide +kernel
theorem dX7_become_52 : decode cX7_become 52 = .ok (.iload_n 3, 1) := by decide +kernel
theorem dX7_become_53 : decode cX7_become 53 = .ok (.invokevirtual 158, 3) := by decide +kernel
theorem dX7_become_56 : decode cX7_become 56 = .ok (.iload_n 3, 1) := by decide +kernel
theorem dX7_become_57 : decode cX7_become 57 = .ok (.ireturn, 1) := by decide +kernel
theorem dX7_sign_0 : decode cX7_sign 0 = .ok (.aload_n 0, 1) := by decide +kernel
theorem dX7_sign_1 : decode cX7_sign 1 = .ok (.invokevirtual 167, 3) := by decide +kernel
theorem dX7_sign_4 : decode cX7_sign 4 = .ok (.ifCond .eq 6, 3) := by decide +kernel
theorem dX7_sign_7 : decode cX7_sign 7 = .ok (.ldc 157, 2) := by decide +kernel
theorem dX7_sign_9 : decode cX7_sign 9 = .ok (.ireturn, 1) := by decide +kernel
theorem dX7_sign_10 : decode cX7_sign 10 = .ok (.iload_n 1, 1) := by decide +kernel
theorem dX7_sign_11 : decode cX7_sign 11 = .ok (.invokestatic 171, 3) := by decide +kernel
theorem dX7_sign_14 : decode cX7_sign 14 = .ok (.ifCond .ne 6, 3) := by decide +kernel
theorem dX7_sign_17 : decode cX7_sign 17 = .ok (.ldc 85, 2) := by decide +kernel
theorem dX7_sign_19 : decode cX7_sign 19 = .ok (.ireturn, 1) := by decide +kernel
theorem dX7_sign_20 : decode cX7_sign 20 = .ok (.aload_n 0, 1) := by decide +kernel
theorem dX7_sign_21 : decode cX7_sign 21 = .ok (.getfield 26, 3) := by decide +kernel
theorem dX7_sign_24 : decode cX7_sign 24 = .ok (.getfield 174, 3) := by decide +kernel
theorem dX7_sign_27 : decode cX7_sign 27 = .ok (.istore_n 2, 1) := by decide +kernel
theorem dX7_sign_28 : decode cX7_sign 28 = .ok (.iload_n 2, 1) := by decide +kernel
theorem dX7_sign_29 : decode cX7_sign 29 = .ok (.iload_n 1, 1) := by decide +kernel
theorem dX7_sign_30 : decode cX7_sign 30 = .ok (.if_icmp .ne 6, 3) := by decide +kernel
theorem dX7_sign_33 : decode cX7_sign 33 = .ok (.ldc 157, 2) := by decide +kernel
theorem dX7_sign_35 : decode cX7_sign 35 = .ok (.ireturn, 1) := by decide +kernel
theorem dX7_sign_36 : decode cX7_sign 36 = .ok (.aload_n 0, 1) := by decide +kernel
theorem dX7_sign_37 : decode cX7_sign 37 = .ok (.getfield 26, 3) := by decide +kernel
theorem dX7_sign_40 : decode cX7_sign 40 = .ok (.iload_n 1, 1) := by decide +kernel
theorem dX7_sign_41 : decode cX7_sign 41 = .ok (.putfield 174, 3) := by decide +kernel
theorem dX7_sign_44 : decode cX7_sign 44 = .ok (.aload_n 0, 1) := by decide +kernel
theorem dX7_sign_45 : decode cX7_sign 45 = .ok (.iconst 2, 1) := by decide +kernel
theorem dX7_sign_46 : decode cX7_sign 46 = .ok (.iconst 0, 1) := by decide +kernel
theorem dX7_sign_47 : decode cX7_sign 47 = .ok (.iload_n 2, 1) := by decide +kernel
theorem dX7_sign_48 : decode cX7_sign 48 = .ok (.invokevirtual 158, 3) := by decide +kernel
theorem dX7_sign_51 : decode cX7_sign 51 = .ok (.iload_n 2, 1) := by decide +kernel
theorem dX7_sign_52 : decode cX7_sign 52 = .ok (.ireturn, 1) := by decide +kernel
theorem dX7_shift_0 : decode cX7_shift 0 = .ok (.aload_n 0, 1) := by decide +kernel
theorem dX7_shift_1 : decode cX7_shift 1 = .ok (.invokevirtual 167, 3) := by decide +kernel
theorem dX7_shift_4 : decode cX7_shift 4 = .ok (.ifCond .eq 6, 3) := by decide +kernel
theorem dX7_shift_7 : decode cX7_shift 7 = .ok (.ldc 157, 2) := by decide +kernel
theorem dX7_shift_9 : decode cX7_shift 9 = .ok (.ireturn, 1) := by decide +kernel
theorem dX7_shift_10 : decode cX7_shift 10 = .ok (.iload_n 1, 1) := by decide +kernel
theorem dX7_shift_11 : decode cX7_shift 11 = .ok (.bipush (-6), 2) := by decide +kernel
theorem dX7_shift_13 : decode cX7_shift 13 = .ok (.if_icmp .lt 9, 3) := by decide +kernel
theorem dX7_shift_16 : decode cX7_shift 16 = .ok (.iload_n 1, 1) := by decide +kernel
theorem dX7_shift_17 : decode cX7_shift 17 = .ok (.bipush 6, 2) := by decide +kernel
theorem dX7_shift_19 : decode cX7_shift 19 = .ok (.if_icmp .le 6, 3) := by decide +kernel
theorem dX7_shift_22 : decode cX7_shift 22 = .ok (.ldc 85, 2) := by decide +kernel
theorem dX7_shift_24 : decode cX7_shift 24 = .ok (.ireturn, 1) := by decide +kernel
theorem dX7_shift_25 : decode cX7_shift 25 = .ok (.iload_n 1, 1) := by decide +kernel
theorem dX7_shift_26 : decode cX7_shift 26 = .ok (.ifCond .eq 18, 3) := by decide +kernel
theorem dX7_shift_29 : decode cX7_shift 29 = .ok (.aload_n 0, 1) := by decide +kernel
theorem dX7_shift_30 : decode cX7_shift 30 = .ok (.getfield 26, 3) := by decide +kernel
theorem dX7_shift_33 : decode cX7_shift 33 = .ok (.getfield 174, 3) := by decide +kernel
theorem dX7_shift_36 : decode cX7_shift 36 = .ok (.iload_n 1, 1) := by decide +kernel
theorem dX7_shift_37 : decode cX7_shift 37 = .ok (.iadd, 1) := by decide +kernel
theorem dX7_shift_38 : decode cX7_shift 38 = .ok (.invokestatic 171, 3) := by decide +kernel
theorem dX7_shift_41 : decode cX7_shift 41 = .ok (.ifCond .ne 6, 3) := by decide +kernel
theorem dX7_shift_44 : decode cX7_shift 44 = .ok (.ldc 157, 2) := by decide +kernel
theorem dX7_shift_46 : decode cX7_shift 46 = .ok (.ireturn, 1) := by decide +kernel
theorem dX7_shift_47 : decode cX7_shift 47 = .ok (.aload_n 0, 1) := by decide +kernel
theorem dX7_shift_48 : decode cX7_shift 48 = .ok (.getfield 26, 3) := by decide +kernel
theorem dX7_shift_51 : decode cX7_shift 51 = .ok (.iload_n 1, 1) := by decide +kernel
theorem dX7_shift_52 : decode cX7_shift 52 = .ok (.invokevirtual 177, 3) := by decide +kernel
theorem dX7_shift_55 : decode cX7_shift 55 = .ok (.aload_n 0, 1) := by decide +kernel
theorem dX7_shift_56 : decode cX7_shift 56 = .ok (.iconst 3, 1) := by decide +kernel
theorem dX7_shift_57 : decode cX7_shift 57 = .ok (.iconst 0, 1) := by decide +kernel
theorem dX7_shift_58 : decode cX7_shift 58 = .ok (.iload_n 1, 1) := by decide +kernel
theorem dX7_shift_59 : decode cX7_shift 59 = .ok (.invokevirtual 158, 3) := by decide +kernel
theorem dX7_shift_62 : decode cX7_shift 62 = .ok (.aload_n 0, 1) := by decide +kernel
theorem dX7_shift_63 : decode cX7_shift 63 = .ok (.getfield 26, 3) := by decide +kernel
theorem dX7_shift_66 : decode cX7_shift 66 = .ok (.getfield 174, 3) := by decide +kernel
theorem dX7_shift_69 : decode cX7_shift 69 = .ok (.ireturn, 1) := by decide +kernel
theorem dX7_undo_0 : decode cX7_undo 0 = .ok (.aload_n 0, 1) := by decide +kernel
theorem dX7_undo_1 : decode cX7_undo 1 = .ok (.getfield 50, 3) := by decide +kernel
theorem dX7_undo_4 : decode cX7_undo 4 = .ok (.getfield 180, 3) := by decide +kernel
theorem dX7_undo_7 : decode cX7_undo 7 = .ok (.ifCond .ne 6, 3) := by decide +kernel
theorem dX7_undo_10 : decode cX7_undo 10 = .ok (.ldc 157, 2) := by decide +kernel
theorem dX7_undo_12 : decode cX7_undo 12 = .ok (.ireturn, 1) := by decide +kernel
theorem dX7_undo_13 : decode cX7_undo 13 = .ok (.aload_n 0, 1) := by decide +kernel
theorem dX7_undo_14 : decode cX7_undo 14 = .ok (.getfield 50, 3) := by decide +kernel
theorem dX7_undo_17 : decode cX7_undo 17 = .ok (.aload_n 0, 1) := by decide +kernel
theorem dX7_undo_18 : decode cX7_undo 18 = .ok (.getfield 26, 3) := by decide +kernel
theorem dX7_undo_21 : decode cX7_undo 21 = .ok (.invokevirtual 183, 3) := by decide +kernel
theorem dX7_undo_24 : decode cX7_undo 24 = .ok (.aload_n 0, 1) := by decide +kernel
theorem dX7_undo_25 : decode cX7_undo 25 = .ok (.invokevirtual 141, 3) := by decide +kernel
theorem dX7_undo_28 : decode cX7_undo 28 = .ok (.aload_n 0, 1) := by decide +kernel
theorem dX7_undo_29 : decode cX7_undo 29 = .ok (.getfield 50, 3) := by decide +kernel
theorem dX7_undo_32 : decode cX7_undo 32 = .ok (.getfield 180, 3) := by decide +kernel
theorem dX7_undo_35 : decode cX7_undo 35 = .ok (.ireturn, 1) := by decide +kernel
theorem dX7_place_0 : decode cX7_place 0 = .ok (.iload_n 1, 1) := by decide +kernel
theorem dX7_place_1 : decode cX7_place 1 = .ok (.bipush (-15), 2) := by decide +kernel
theorem dX7_place_3 : decode cX7_place 3 = .ok (.if_icmp .lt 9, 3) := by decide +kernel
theorem dX7_place_6 : decode cX7_place 6 = .ok (.iload_n 1, 1) := by decide +kernel
theorem dX7_place_7 : decode cX7_place 7 = .ok (.bipush 19, 2) := by decide +kernel
theorem dX7_place_9 : decode cX7_place 9 = .ok (.if_icmp .le 6, 3) := by decide +kernel
theorem dX7_place_12 : decode cX7_place 12 = .ok (.ldc 85, 2) := by decide +kernel
theorem dX7_place_14 : decode cX7_place 14 = .ok (.ireturn, 1) := by decide +kernel
theorem dX7_place_15 : decode cX7_place 15 = .ok (.iload_n 2, 1) := by decide +kernel
theorem dX7_place_16 : decode cX7_place 16 = .ok (.tableswitch 43 0 2 #[28, 33, 38], 28) := by decide +kernel
theorem dX7_place_44 : decode cX7_place 44 = .ok (.iload_n 1, 1) := by decide +kernel
theorem dX7_place_45 : decode cX7_place 45 = .ok (.invokestatic 186, 3) := by decide +kernel
theorem dX7_place_48 : decode cX7_place 48 = .ok (.ireturn, 1) := by decide +kernel
theorem dX7_place_49 : decode cX7_place 49 = .ok (.iload_n 1, 1) := by decide +kernel
theorem dX7_place_50 : decode cX7_place 50 = .ok (.invokestatic 191, 3) := by decide +kernel
theorem dX7_place_53 : decode cX7_place 53 = .ok (.ireturn, 1) := by decide +kernel
theorem dX7_place_54 : decode cX7_place 54 = .ok (.iload_n 1, 1) := by decide +kernel
theorem dX7_place_55 : decode cX7_place 55 = .ok (.invokestatic 194, 3) := by decide +kernel
theorem dX7_place_58 : decode cX7_place 58 = .ok (.ireturn, 1) := by decide +kernel
theorem dX7_place_59 : decode cX7_place 59 = .ok (.ldc 85, 2) := by decide +kernel
theorem dX7_place_61 : decode cX7_place 61 = .ok (.ireturn, 1) := by decide +kernel
theorem dX7_inWindow_0 : decode cX7_inWindow 0 = .ok (.iload_n 1, 1) := by decide +kernel
theorem dX7_inWindow_1 : decode cX7_inWindow 1 = .ok (.invokestatic 197, 3) := by decide +kernel
theorem dX7_inWindow_4 : decode cX7_inWindow 4 = .ok (.ifCond .eq 18, 3) := by decide +kernel
theorem dX7_inWindow_7 : decode cX7_inWindow 7 = .ok (.iload_n 2, 1) := by decide +kernel
theorem dX7_inWindow_8 : decode cX7_inWindow 8 = .ok (.invokestatic 150, 3) := by decide +kernel
theorem dX7_inWindow_11 : decode cX7_inWindow 11 = .ok (.ifCond .eq 11, 3) := by decide +kernel
theorem dX7_inWindow_14 : decode cX7_inWindow 14 = .ok (.iload_n 1, 1) := by decide +kernel
theorem dX7_inWindow_15 : decode cX7_inWindow 15 = .ok (.iload_n 2, 1) := by decide +kernel
theorem dX7_inWindow_16 : decode cX7_inWindow 16 = .ok (.invokestatic 200, 3) := by decide +kernel
theorem dX7_inWindow_19 : decode cX7_inWindow 19 = .ok (.goto 5, 3) := by decide +kernel
theorem dX7_inWindow_22 : decode cX7_inWindow 22 = .ok (.ldc 85, 2) := by decide +kernel
theorem dX7_inWindow_24 : decode cX7_inWindow 24 = .ok (.ireturn, 1) := by decide +kernel
theorem dX7_head_0 : decode cX7_head 0 = .ok (.aload_n 0, 1) := by decide +kernel
theorem dX7_head_1 : decode cX7_head 1 = .ok (.invokevirtual 167, 3) := by decide +kernel
theorem dX7_head_4 : decode cX7_head 4 = .ok (.ifCond .ne 13, 3) := by decide +kernel
theorem dX7_head_7 : decode cX7_head 7 = .ok (.iload_n 1, 1) := by decide +kernel
theorem dX7_head_8 : decode cX7_head 8 = .ok (.ifCond .lt 9, 3) := by decide +kernel
theorem dX7_head_11 : decode cX7_head 11 = .ok (.iload_n 1, 1) := by decide +kernel
theorem dX7_head_12 : decode cX7_head 12 = .ok (.bipush 7, 2) := by decide +kernel
theorem dX7_head_14 : decode cX7_head 14 = .ok (.if_icmp .lt 6, 3) := by decide +kernel
theorem dX7_head_17 : decode cX7_head 17 = .ok (.ldc 85, 2) := by decide +kernel
theorem dX7_head_19 : decode cX7_head 19 = .ok (.ireturn, 1) := by decide +kernel
theorem dX7_head_20 : decode cX7_head 20 = .ok (.aload_n 0, 1) := by decide +kernel
theorem dX7_head_21 : decode cX7_head 21 = .ok (.getfield 26, 3) := by decide +kernel
theorem dX7_head_24 : decode cX7_head 24 = .ok (.getfield 174, 3) := by decide +kernel
theorem dX7_head_27 : decode cX7_head 27 = .ok (.iload_n 1, 1) := by decide +kernel
theorem dX7_head_28 : decode cX7_head 28 = .ok (.invokestatic 204, 3) := by decide +kernel
theorem dX7_head_31 : decode cX7_head 31 = .ok (.ireturn, 1) := by decide +kernel
theorem dX7_note_0 : decode cX7_note 0 = .ok (.aload_n 0, 1) := by decide +kernel
theorem dX7_note_1 : decode cX7_note 1 = .ok (.iload_n 1, 1) := by decide +kernel
theorem dX7_note_2 : decode cX7_note 2 = .ok (.invokevirtual 147, 3) := by decide +kernel
theorem dX7_note_5 : decode cX7_note 5 = .ok (.ifCond .ne 6, 3) := by decide +kernel
theorem dX7_note_8 : decode cX7_note 8 = .ok (.ldc 85, 2) := by decide +kernel
theorem dX7_note_10 : decode cX7_note 10 = .ok (.ireturn, 1) := by decide +kernel
theorem dX7_note_11 : decode cX7_note 11 = .ok (.iload_n 2, 1) := by decide +kernel
theorem dX7_note_12 : decode cX7_note 12 = .ok (.tableswitch 106 0 5 #[40, 50, 60, 70, 83, 96], 40) := by decide +kernel
theorem dX7_note_52 : decode cX7_note 52 = .ok (.aload_n 0, 1) := by decide +kernel
theorem dX7_note_53 : decode cX7_note 53 = .ok (.getfield 26, 3) := by decide +kernel
theorem dX7_note_56 : decode cX7_note 56 = .ok (.getfield 153, 3) := by decide +kernel
theorem dX7_note_59 : decode cX7_note 59 = .ok (.iload_n 1, 1) := by decide +kernel
theorem dX7_note_60 : decode cX7_note 60 = .ok (.iaload, 1) := by decide +kernel
theorem dX7_note_61 : decode cX7_note 61 = .ok (.ireturn, 1) := by decide +kernel
theorem dX7_note_62 : decode cX7_note 62 = .ok (.aload_n 0, 1) := by decide +kernel
theorem dX7_note_63 : decode cX7_note 63 = .ok (.getfield 26, 3) := by decide +kernel
theorem dX7_note_66 : decode cX7_note 66 = .ok (.getfield 207, 3) := by decide +kernel
theorem dX7_note_69 : decode cX7_note 69 = .ok (.iload_n 1, 1) := by decide +kernel
theorem dX7_note_70 : decode cX7_note 70 = .ok (.iaload, 1) := by decide +kernel
theorem dX7_note_71 : decode cX7_note 71 = .ok (.ireturn, 1) := by decide +kernel
theorem dX7_note_72 : decode cX7_note 72 = .ok (.aload_n 0, 1) := by decide +kernel
theorem dX7_note_73 : decode cX7_note 73 = .ok (.invokevirtual 210, 3) := by decide +kernel
theorem dX7_note_76 : decode cX7_note 76 = .ok (.getfield 214, 3) := by decide +kernel
theorem dX7_note_79 : decode cX7_note 79 = .ok (.iload_n 1, 1) := by decide +kernel
theorem dX7_note_80 : decode cX7_note 80 = .ok (.iaload, 1) := by decide +kernel
theorem dX7_note_81 : decode cX7_note 81 = .ok (.ireturn, 1) := by decide +kernel
theorem dX7_note_82 : decode cX7_note 82 = .ok (.aload_n 0, 1) := by decide +kernel
theorem dX7_note_83 : decode cX7_note 83 = .ok (.invokevirtual 210, 3) := by decide +kernel
theorem dX7_note_86 : decode cX7_note 86 = .ok (.getfield 214, 3) := by decide +kernel
theorem dX7_note_89 : decode cX7_note 89 = .ok (.iload_n 1, 1) := by decide +kernel
theorem dX7_note_90 : decode cX7_note 90 = .ok (.iaload, 1) := by decide +kernel
theorem dX7_note_91 : decode cX7_note 91 = .ok (.invokestatic 186, 3) := by decide +kernel
theorem dX7_note_94 : decode cX7_note 94 = .ok (.ireturn, 1) := by decide +kernel
theorem dX7_note_95 : decode cX7_note 95 = .ok (.aload_n 0, 1) := by decide +kernel
theorem dX7_note_96 : decode cX7_note 96 = .ok (.invokevirtual 210, 3) := by decide +kernel
theorem dX7_note_99 : decode cX7_note 99 = .ok (.getfield 214, 3) := by decide +kernel
theorem dX7_note_102 : decode cX7_note 102 = .ok (.iload_n 1, 1) := by decide +kernel
theorem dX7_note_103 : decode cX7_note 103 = .ok (.iaload, 1) := by decide +kernel
theorem dX7_note_104 : decode cX7_note 104 = .ok (.invokestatic 191, 3) := by decide +kernel
theorem dX7_note_107 : decode cX7_note 107 = .ok (.ireturn, 1) := by decide +kernel
theorem dX7_note_108 : decode cX7_note 108 = .ok (.aload_n 0, 1) := by decide +kernel
theorem dX7_note_109 : decode cX7_note 109 = .ok (.invokevirtual 210, 3) := by decide +kernel
theorem dX7_note_112 : decode cX7_note 112 = .ok (.getfield 217, 3) := by decide +kernel
theorem dX7_note_115 : decode cX7_note 115 = .ok (.iload_n 1, 1) := by decide +kernel
theorem dX7_note_116 : decode cX7_note 116 = .ok (.iaload, 1) := by decide +kernel
theorem dX7_note_117 : decode cX7_note 117 = .ok (.ireturn, 1) := by decide +kernel
theorem dX7_note_118 : decode cX7_note 118 = .ok (.ldc 85, 2) := by decide +kernel
theorem dX7_note_120 : decode cX7_note 120 = .ok (.ireturn, 1) := by decide +kernel
theorem dX7_chord_0 : decode cX7_chord 0 = .ok (.aload_n 0, 1) := by decide +kernel
theorem dX7_chord_1 : decode cX7_chord 1 = .ok (.iload_n 1, 1) := by decide +kernel
theorem dX7_chord_2 : decode cX7_chord 2 = .ok (.invokevirtual 161, 3) := by decide +kernel
theorem dX7_chord_5 : decode cX7_chord 5 = .ok (.ifCond .ne 6, 3) := by decide +kernel
theorem dX7_chord_8 : decode cX7_chord 8 = .ok (.ldc 85, 2) := by decide +kernel
theorem dX7_chord_10 : decode cX7_chord 10 = .ok (.ireturn, 1) := by decide +kernel
theorem dX7_chord_11 : decode cX7_chord 11 = .ok (.iload_n 2, 1) := by decide +kernel
theorem dX7_chord_12 : decode cX7_chord 12 = .ok (.tableswitch 107 0 5 #[40, 49, 59, 69, 87, 97], 40) := by decide +kernel
theorem dX7_chord_52 : decode cX7_chord 52 = .ok (.aload_n 0, 1) := by decide +kernel
theorem dX7_chord_53 : decode cX7_chord 53 = .ok (.getfield 26, 3) := by decide +kernel
theorem dX7_chord_56 : decode cX7_chord 56 = .ok (.iload_n 1, 1) := by decide +kernel
theorem dX7_chord_57 : decode cX7_chord 57 = .ok (.invokevirtual 220, 3) := by decide +kernel
theorem dX7_chord_60 : decode cX7_chord 60 = .ok (.ireturn, 1) := by decide +kernel
theorem dX7_chord_61 : decode cX7_chord 61 = .ok (.aload_n 0, 1) := by decide +kernel
theorem dX7_chord_62 : decode cX7_chord 62 = .ok (.getfield 26, 3) := by decide +kernel
theorem dX7_chord_65 : decode cX7_chord 65 = .ok (.getfield 223, 3) := by decide +kernel
theorem dX7_chord_68 : decode cX7_chord 68 = .ok (.iload_n 1, 1) := by decide +kernel
theorem dX7_chord_69 : decode cX7_chord 69 = .ok (.iaload, 1) := by decide +kernel
theorem dX7_chord_70 : decode cX7_chord 70 = .ok (.ireturn, 1) := by decide +kernel
theorem dX7_chord_71 : decode cX7_chord 71 = .ok (.aload_n 0, 1) := by decide +kernel
theorem dX7_chord_72 : decode cX7_chord 72 = .ok (.invokevirtual 210, 3) := by decide +kernel
theorem dX7_chord_75 : decode cX7_chord 75 = .ok (.getfield 226, 3) := by decide +kernel
theorem dX7_chord_78 : decode cX7_chord 78 = .ok (.iload_n 1, 1) := by decide +kernel
theorem dX7_chord_79 : decode cX7_chord 79 = .ok (.iaload, 1) := by decide +kernel
theorem dX7_chord_80 : decode cX7_chord 80 = .ok (.ireturn, 1) := by decide +kernel
theorem dX7_chord_81 : decode cX7_chord 81 = .ok (.aload_n 0, 1) := by decide +kernel
theorem dX7_chord_82 : decode cX7_chord 82 = .ok (.getfield 26, 3) := by decide +kernel
theorem dX7_chord_85 : decode cX7_chord 85 = .ok (.iload_n 1, 1) := by decide +kernel
theorem dX7_chord_86 : decode cX7_chord 86 = .ok (.aload_n 0, 1) := by decide +kernel
theorem dX7_chord_87 : decode cX7_chord 87 = .ok (.invokevirtual 210, 3) := by decide +kernel
theorem dX7_chord_90 : decode cX7_chord 90 = .ok (.getfield 226, 3) := by decide +kernel
theorem dX7_chord_93 : decode cX7_chord 93 = .ok (.iload_n 1, 1) := by decide +kernel
theorem dX7_chord_94 : decode cX7_chord 94 = .ok (.iaload, 1) := by decide +kernel
theorem dX7_chord_95 : decode cX7_chord 95 = .ok (.invokevirtual 229, 3) := by decide +kernel
theorem dX7_chord_98 : decode cX7_chord 98 = .ok (.ireturn, 1) := by decide +kernel
theorem dX7_chord_99 : decode cX7_chord 99 = .ok (.aload_n 0, 1) := by decide +kernel
theorem dX7_chord_100 : decode cX7_chord 100 = .ok (.getfield 26, 3) := by decide +kernel
theorem dX7_chord_103 : decode cX7_chord 103 = .ok (.getfield 232, 3) := by decide +kernel
theorem dX7_chord_106 : decode cX7_chord 106 = .ok (.iload_n 1, 1) := by decide +kernel
theorem dX7_chord_107 : decode cX7_chord 107 = .ok (.iaload, 1) := by decide +kernel
theorem dX7_chord_108 : decode cX7_chord 108 = .ok (.ireturn, 1) := by decide +kernel
theorem dX7_chord_109 : decode cX7_chord 109 = .ok (.aload_n 0, 1) := by decide +kernel
theorem dX7_chord_110 : decode cX7_chord 110 = .ok (.getfield 26, 3) := by decide +kernel
theorem dX7_chord_113 : decode cX7_chord 113 = .ok (.getfield 235, 3) := by decide +kernel
theorem dX7_chord_116 : decode cX7_chord 116 = .ok (.iload_n 1, 1) := by decide +kernel
theorem dX7_chord_117 : decode cX7_chord 117 = .ok (.iaload, 1) := by decide +kernel
theorem dX7_chord_118 : decode cX7_chord 118 = .ok (.ireturn, 1) := by decide +kernel
theorem dX7_chord_119 : decode cX7_chord 119 = .ok (.ldc 85, 2) := by decide +kernel
theorem dX7_chord_121 : decode cX7_chord 121 = .ok (.ireturn, 1) := by decide +kernel
theorem dX7_whole_0 : decode cX7_whole 0 = .ok (.aload_n 0, 1) := by decide +kernel
theorem dX7_whole_1 : decode cX7_whole 1 = .ok (.invokevirtual 167, 3) := by decide +kernel
theorem dX7_whole_4 : decode cX7_whole 4 = .ok (.ifCond .eq 6, 3) := by decide +kernel
theorem dX7_whole_7 : decode cX7_whole 7 = .ok (.ldc 157, 2) := by decide +kernel
theorem dX7_whole_9 : decode cX7_whole 9 = .ok (.ireturn, 1) := by decide +kernel
theorem dX7_whole_10 : decode cX7_whole 10 = .ok (.iload_n 1, 1) := by decide +kernel
theorem dX7_whole_11 : decode cX7_whole 11 = .ok (.tableswitch 89 0 6 #[41, 49, 57, 65, 70, 75, 84], 41) := by decide +kernel
theorem dX7_whole_52 : decode cX7_whole 52 = .ok (.aload_n 0, 1) := by decide +kernel
theorem dX7_whole_53 : decode cX7_whole 53 = .ok (.invokevirtual 210, 3) := by decide +kernel
theorem dX7_whole_56 : decode cX7_whole 56 = .ok (.getfield 238, 3) := by decide +kernel
theorem dX7_whole_59 : decode cX7_whole 59 = .ok (.ireturn, 1) := by decide +kernel
theorem dX7_whole_60 : decode cX7_whole 60 = .ok (.aload_n 0, 1) := by decide +kernel
theorem dX7_whole_61 : decode cX7_whole 61 = .ok (.invokevirtual 210, 3) := by decide +kernel
theorem dX7_whole_64 : decode cX7_whole 64 = .ok (.getfield 241, 3) := by decide +kernel
theorem dX7_whole_67 : decode cX7_whole 67 = .ok (.ireturn, 1) := by decide +kernel
theorem dX7_whole_68 : decode cX7_whole 68 = .ok (.aload_n 0, 1) := by decide +kernel
theorem dX7_whole_69 : decode cX7_whole 69 = .ok (.invokevirtual 210, 3) := by decide +kernel
theorem dX7_whole_72 : decode cX7_whole 72 = .ok (.getfield 244, 3) := by decide +kernel
theorem dX7_whole_75 : decode cX7_whole 75 = .ok (.ireturn, 1) := by decide +kernel
theorem dX7_whole_76 : decode cX7_whole 76 = .ok (.aload_n 0, 1) := by decide +kernel
theorem dX7_whole_77 : decode cX7_whole 77 = .ok (.invokevirtual 247, 3) := by decide +kernel
theorem dX7_whole_80 : decode cX7_whole 80 = .ok (.ireturn, 1) := by decide +kernel
theorem dX7_whole_81 : decode cX7_whole 81 = .ok (.aload_n 0, 1) := by decide +kernel
theorem dX7_whole_82 : decode cX7_whole 82 = .ok (.invokevirtual 251, 3) := by decide +kernel
theorem dX7_whole_85 : decode cX7_whole 85 = .ok (.ireturn, 1) := by decide +kernel
theorem dX7_whole_86 : decode cX7_whole 86 = .ok (.aload_n 0, 1) := by decide +kernel
theorem dX7_whole_87 : decode cX7_whole 87 = .ok (.aload_n 0, 1) := by decide +kernel
theorem dX7_whole_88 : decode cX7_whole 88 = .ok (.invokevirtual 254, 3) := by decide +kernel
theorem dX7_whole_91 : decode cX7_whole 91 = .ok (.invokevirtual 257, 3) := by decide +kernel
theorem dX7_whole_94 : decode cX7_whole 94 = .ok (.ireturn, 1) := by decide +kernel
theorem dX7_whole_95 : decode cX7_whole 95 = .ok (.aload_n 0, 1) := by decide +kernel
theorem dX7_whole_96 : decode cX7_whole 96 = .ok (.invokevirtual 254, 3) := by decide +kernel
theorem dX7_whole_99 : decode cX7_whole 99 = .ok (.ireturn, 1) := by decide +kernel
theorem dX7_whole_100 : decode cX7_whole 100 = .ok (.ldc 85, 2) := by decide +kernel
theorem dX7_whole_102 : decode cX7_whole 102 = .ok (.ireturn, 1) := by decide +kernel
theorem dX7_price_0 : decode cX7_price 0 = .ok (.aload_n 0, 1) := by decide +kernel
theorem dX7_price_1 : decode cX7_price 1 = .ok (.iload_n 1, 1) := by decide +kernel
theorem dX7_price_2 : decode cX7_price 2 = .ok (.invokevirtual 161, 3) := by decide +kernel
theorem dX7_price_5 : decode cX7_price 5 = .ok (.ifCond .eq 22, 3) := by decide +kernel
theorem dX7_price_8 : decode cX7_price 8 = .ok (.iload_n 2, 1) := by decide +kernel
theorem dX7_price_9 : decode cX7_price 9 = .ok (.invokestatic 197, 3) := by decide +kernel
theorem dX7_price_12 : decode cX7_price 12 = .ok (.ifCond .eq 15, 3) := by decide +kernel
theorem dX7_price_15 : decode cX7_price 15 = .ok (.aload_n 0, 1) := by decide +kernel
theorem dX7_price_16 : decode cX7_price 16 = .ok (.getfield 26, 3) := by decide +kernel
theorem dX7_price_19 : decode cX7_price 19 = .ok (.iload_n 1, 1) := by decide +kernel
theorem dX7_price_20 : decode cX7_price 20 = .ok (.iload_n 2, 1) := by decide +kernel
theorem dX7_price_21 : decode cX7_price 21 = .ok (.invokevirtual 229, 3) := by decide +kernel
theorem dX7_price_24 : decode cX7_price 24 = .ok (.goto 5, 3) := by decide +kernel
theorem dX7_price_27 : decode cX7_price 27 = .ok (.ldc 85, 2) := by decide +kernel
theorem dX7_price_29 : decode cX7_price 29 = .ok (.ireturn, 1) := by decide +kernel
theorem dX7_cost_0 : decode cX7_cost 0 = .ok (.aload_n 0, 1) := by decide +kernel
theorem dX7_cost_1 : decode cX7_cost 1 = .ok (.invokevirtual 167, 3) := by decide +kernel
theorem dX7_cost_4 : decode cX7_cost 4 = .ok (.ifCond .eq 6, 3) := by decide +kernel
theorem dX7_cost_7 : decode cX7_cost 7 = .ok (.ldc 157, 2) := by decide +kernel
theorem dX7_cost_9 : decode cX7_cost 9 = .ok (.ireturn, 1) := by decide +kernel
theorem dX7_cost_10 : decode cX7_cost 10 = .ok (.iload_n 1, 1) := by decide +kernel
theorem dX7_cost_11 : decode cX7_cost 11 = .ok (.invokestatic 81, 3) := by decide +kernel
theorem dX7_cost_14 : decode cX7_cost 14 = .ok (.ifCond .ne 6, 3) := by decide +kernel
theorem dX7_cost_17 : decode cX7_cost 17 = .ok (.ldc 85, 2) := by decide +kernel
theorem dX7_cost_19 : decode cX7_cost 19 = .ok (.ireturn, 1) := by decide +kernel
theorem dX7_cost_20 : decode cX7_cost 20 = .ok (.aload_n 0, 1) := by decide +kernel
theorem dX7_cost_21 : decode cX7_cost 21 = .ok (.getfield 10, 3) := by decide +kernel
theorem dX7_cost_24 : decode cX7_cost 24 = .ok (.iload_n 1, 1) := by decide +kernel
theorem dX7_cost_25 : decode cX7_cost 25 = .ok (.invokevirtual 97, 3) := by decide +kernel
theorem dX7_cost_28 : decode cX7_cost 28 = .ok (.ifCond .eq 9, 3) := by decide +kernel
theorem dX7_cost_31 : decode cX7_cost 31 = .ok (.aload_n 0, 1) := by decide +kernel
theorem dX7_cost_32 : decode cX7_cost 32 = .ok (.iconst 1, 1) := by decide +kernel
theorem dX7_cost_33 : decode cX7_cost 33 = .ok (.invokevirtual 86, 3) := by decide +kernel
theorem dX7_cost_36 : decode cX7_cost 36 = .ok (.ireturn, 1) := by decide +kernel
theorem dX7_cost_37 : decode cX7_cost 37 = .ok (.aload_n 0, 1) := by decide +kernel
theorem dX7_cost_38 : decode cX7_cost 38 = .ok (.getfield 10, 3) := by decide +kernel
theorem dX7_cost_41 : decode cX7_cost 41 = .ok (.iload_n 1, 1) := by decide +kernel
theorem dX7_cost_42 : decode cX7_cost 42 = .ok (.iload_n 2, 1) := by decide +kernel
theorem dX7_cost_43 : decode cX7_cost 43 = .ok (.aload_n 0, 1) := by decide +kernel
theorem dX7_cost_44 : decode cX7_cost 44 = .ok (.getfield 26, 3) := by decide +kernel
theorem dX7_cost_47 : decode cX7_cost 47 = .ok (.getfield 144, 3) := by decide +kernel
theorem dX7_cost_50 : decode cX7_cost 50 = .ok (.invokevirtual 100, 3) := by decide +kernel
theorem dX7_cost_53 : decode cX7_cost 53 = .ok (.ifCond .ne 9, 3) := by decide +kernel
theorem dX7_cost_56 : decode cX7_cost 56 = .ok (.aload_n 0, 1) := by decide +kernel
theorem dX7_cost_57 : decode cX7_cost 57 = .ok (.iconst 2, 1) := by decide +kernel
theorem dX7_cost_58 : decode cX7_cost 58 = .ok (.invokevirtual 86, 3) := by decide +kernel
theorem dX7_cost_61 : decode cX7_cost 61 = .ok (.ireturn, 1) := by decide +kernel
theorem dX7_cost_62 : decode cX7_cost 62 = .ok (.aload_n 0, 1) := by decide +kernel
theorem dX7_cost_63 : decode cX7_cost 63 = .ok (.aload_n 0, 1) := by decide +kernel
theorem dX7_cost_64 : decode cX7_cost 64 = .ok (.iload_n 1, 1) := by decide +kernel
theorem dX7_cost_65 : decode cX7_cost 65 = .ok (.iload_n 2, 1) := by decide +kernel
theorem dX7_cost_66 : decode cX7_cost 66 = .ok (.invokevirtual 260, 3) := by decide +kernel
theorem dX7_cost_69 : decode cX7_cost 69 = .ok (.invokevirtual 94, 3) := by decide +kernel
theorem dX7_cost_72 : decode cX7_cost 72 = .ok (.ireturn, 1) := by decide +kernel
theorem dX7_fits_0 : decode cX7_fits 0 = .ok (.aload_n 0, 1) := by decide +kernel
theorem dX7_fits_1 : decode cX7_fits 1 = .ok (.iload_n 1, 1) := by decide +kernel
theorem dX7_fits_2 : decode cX7_fits 2 = .ok (.invokevirtual 161, 3) := by decide +kernel
theorem dX7_fits_5 : decode cX7_fits 5 = .ok (.ifCond .eq 37, 3) := by decide +kernel
theorem dX7_fits_8 : decode cX7_fits 8 = .ok (.iload_n 2, 1) := by decide +kernel
theorem dX7_fits_9 : decode cX7_fits 9 = .ok (.invokestatic 81, 3) := by decide +kernel
theorem dX7_fits_12 : decode cX7_fits 12 = .ok (.ifCond .eq 30, 3) := by decide +kernel
theorem dX7_fits_15 : decode cX7_fits 15 = .ok (.iload_n 3, 1) := by decide +kernel
theorem dX7_fits_16 : decode cX7_fits 16 = .ok (.iconst 1, 1) := by decide +kernel
theorem dX7_fits_17 : decode cX7_fits 17 = .ok (.if_icmp .lt 25, 3) := by decide +kernel
theorem dX7_fits_20 : decode cX7_fits 20 = .ok (.iload_n 3, 1) := by decide +kernel
theorem dX7_fits_21 : decode cX7_fits 21 = .ok (.aload_n 0, 1) := by decide +kernel
theorem dX7_fits_22 : decode cX7_fits 22 = .ok (.getfield 26, 3) := by decide +kernel
theorem dX7_fits_25 : decode cX7_fits 25 = .ok (.getfield 263, 3) := by decide +kernel
theorem dX7_fits_28 : decode cX7_fits 28 = .ok (.if_icmp .gt 14, 3) := by decide +kernel
theorem dX7_fits_31 : decode cX7_fits 31 = .ok (.iload 4, 2) := by decide +kernel
theorem dX7_fits_33 : decode cX7_fits 33 = .ok (.ifCond .lt 9, 3) := by decide +kernel
theorem dX7_fits_36 : decode cX7_fits 36 = .ok (.iload 4, 2) := by decide +kernel
theorem dX7_fits_38 : decode cX7_fits 38 = .ok (.iconst 2, 1) := by decide +kernel
theorem dX7_fits_39 : decode cX7_fits 39 = .ok (.if_icmp .le 6, 3) := by decide +kernel
theorem dX7_fits_42 : decode cX7_fits 42 = .ok (.ldc 85, 2) := by decide +kernel
theorem dX7_fits_44 : decode cX7_fits 44 = .ok (.ireturn, 1) := by decide +kernel
theorem dX7_fits_45 : decode cX7_fits 45 = .ok (.aload_n 0, 1) := by decide +kernel
theorem dX7_fits_46 : decode cX7_fits 46 = .ok (.getfield 10, 3) := by decide +kernel
theorem dX7_fits_49 : decode cX7_fits 49 = .ok (.iload_n 2, 1) := by decide +kernel
theorem dX7_fits_50 : decode cX7_fits 50 = .ok (.invokevirtual 97, 3) := by decide +kernel
theorem dX7_fits_53 : decode cX7_fits 53 = .ok (.ifCond .eq 9, 3) := by decide +kernel
theorem dX7_fits_56 : decode cX7_fits 56 = .ok (.aload_n 0, 1) := by decide +kernel
theorem dX7_fits_57 : decode cX7_fits 57 = .ok (.iconst 1, 1) := by decide +kernel
theorem dX7_fits_58 : decode cX7_fits 58 = .ok (.invokevirtual 86, 3) := by decide +kernel
theorem dX7_fits_61 : decode cX7_fits 61 = .ok (.ireturn, 1) := by decide +kernel
theorem dX7_fits_62 : decode cX7_fits 62 = .ok (.aload_n 0, 1) := by decide +kernel
theorem dX7_fits_63 : decode cX7_fits 63 = .ok (.getfield 10, 3) := by decide +kernel
theorem dX7_fits_66 : decode cX7_fits 66 = .ok (.iload_n 2, 1) := by decide +kernel
theorem dX7_fits_67 : decode cX7_fits 67 = .ok (.iconst 0, 1) := by decide +kernel
theorem dX7_fits_68 : decode cX7_fits 68 = .ok (.iload_n 3, 1) := by decide +kernel
theorem dX7_fits_69 : decode cX7_fits 69 = .ok (.invokevirtual 100, 3) := by decide +kernel
theorem dX7_fits_72 : decode cX7_fits 72 = .ok (.ifCond .ne 9, 3) := by decide +kernel
theorem dX7_fits_75 : decode cX7_fits 75 = .ok (.aload_n 0, 1) := by decide +kernel
theorem dX7_fits_76 : decode cX7_fits 76 = .ok (.iconst 2, 1) := by decide +kernel
theorem dX7_fits_77 : decode cX7_fits 77 = .ok (.invokevirtual 86, 3) := by decide +kernel
theorem dX7_fits_80 : decode cX7_fits 80 = .ok (.ireturn, 1) := by decide +kernel
theorem dX7_fits_81 : decode cX7_fits 81 = .ok (.iload 4, 2) := by decide +kernel
theorem dX7_fits_83 : decode cX7_fits 83 = .ok (.lookupswitch 48 #[(0, 25), (1, 36)], 25) := by decide +kernel
theorem dX7_fits_108 : decode cX7_fits 108 = .ok (.aload_n 0, 1) := by decide +kernel
theorem dX7_fits_109 : decode cX7_fits 109 = .ok (.aload_n 0, 1) := by decide +kernel
theorem dX7_fits_110 : decode cX7_fits 110 = .ok (.iload_n 2, 1) := by decide +kernel
theorem dX7_fits_111 : decode cX7_fits 111 = .ok (.iload_n 3, 1) := by decide +kernel
theorem dX7_fits_112 : decode cX7_fits 112 = .ok (.invokevirtual 266, 3) := by decide +kernel
theorem dX7_fits_115 : decode cX7_fits 115 = .ok (.invokevirtual 94, 3) := by decide +kernel
theorem dX7_fits_118 : decode cX7_fits 118 = .ok (.ireturn, 1) := by decide +kernel
theorem dX7_fits_119 : decode cX7_fits 119 = .ok (.aload_n 0, 1) := by decide +kernel
theorem dX7_fits_120 : decode cX7_fits 120 = .ok (.aload_n 0, 1) := by decide +kernel
theorem dX7_fits_121 : decode cX7_fits 121 = .ok (.iload_n 1, 1) := by decide +kernel
theorem dX7_fits_122 : decode cX7_fits 122 = .ok (.iload_n 2, 1) := by decide +kernel
theorem dX7_fits_123 : decode cX7_fits 123 = .ok (.iload_n 3, 1) := by decide +kernel
theorem dX7_fits_124 : decode cX7_fits 124 = .ok (.invokevirtual 269, 3) := by decide +kernel
theorem dX7_fits_127 : decode cX7_fits 127 = .ok (.invokevirtual 94, 3) := by decide +kernel
theorem dX7_fits_130 : decode cX7_fits 130 = .ok (.ireturn, 1) := by decide +kernel
theorem dX7_fits_131 : decode cX7_fits 131 = .ok (.aload_n 0, 1) := by decide +kernel
theorem dX7_fits_132 : decode cX7_fits 132 = .ok (.aload_n 0, 1) := by decide +kernel
theorem dX7_fits_133 : decode cX7_fits 133 = .ok (.aload_n 0, 1) := by decide +kernel
theorem dX7_fits_134 : decode cX7_fits 134 = .ok (.getfield 26, 3) := by decide +kernel
theorem dX7_fits_137 : decode cX7_fits 137 = .ok (.getfield 223, 3) := by decide +kernel
theorem dX7_fits_140 : decode cX7_fits 140 = .ok (.iload_n 1, 1) := by decide +kernel
theorem dX7_fits_141 : decode cX7_fits 141 = .ok (.iaload, 1) := by decide +kernel
theorem dX7_fits_142 : decode cX7_fits 142 = .ok (.iload_n 2, 1) := by decide +kernel
theorem dX7_fits_143 : decode cX7_fits 143 = .ok (.iload_n 3, 1) := by decide +kernel
theorem dX7_fits_144 : decode cX7_fits 144 = .ok (.invokevirtual 272, 3) := by decide +kernel
theorem dX7_fits_147 : decode cX7_fits 147 = .ok (.invokevirtual 94, 3) := by decide +kernel
theorem dX7_fits_150 : decode cX7_fits 150 = .ok (.ireturn, 1) := by decide +kernel
theorem dX7_drawn_0 : decode cX7_drawn 0 = .ok (.aload_n 0, 1) := by decide +kernel
theorem dX7_drawn_1 : decode cX7_drawn 1 = .ok (.invokevirtual 167, 3) := by decide +kernel
theorem dX7_drawn_4 : decode cX7_drawn 4 = .ok (.ifCond .eq 6, 3) := by decide +kernel
theorem dX7_drawn_7 : decode cX7_drawn 7 = .ok (.ldc 157, 2) := by decide +kernel
theorem dX7_drawn_9 : decode cX7_drawn 9 = .ok (.ireturn, 1) := by decide +kernel
theorem dX7_drawn_10 : decode cX7_drawn 10 = .ok (.iload_n 1, 1) := by decide +kernel
theorem dX7_drawn_11 : decode cX7_drawn 11 = .ok (.ifCond .lt 30, 3) := by decide +kernel
theorem dX7_drawn_14 : decode cX7_drawn 14 = .ok (.iload_n 1, 1) := by decide +kernel
theorem dX7_drawn_15 : decode cX7_drawn 15 = .ok (.bipush 20, 2) := by decide +kernel
theorem dX7_drawn_17 : decode cX7_drawn 17 = .ok (.if_icmp .gt 24, 3) := by decide +kernel
theorem dX7_drawn_20 : decode cX7_drawn 20 = .ok (.iload_n 2, 1) := by decide +kernel
theorem dX7_drawn_21 : decode cX7_drawn 21 = .ok (.iconst 1, 1) := by decide +kernel
theorem dX7_drawn_22 : decode cX7_drawn 22 = .ok (.if_icmp .lt 19, 3) := by decide +kernel
theorem dX7_drawn_25 : decode cX7_drawn 25 = .ok (.iload_n 2, 1) := by decide +kernel
theorem dX7_drawn_26 : decode cX7_drawn 26 = .ok (.ldc_w 275, 3) := by decide +kernel
theorem dX7_drawn_29 : decode cX7_drawn 29 = .ok (.if_icmp .gt 12, 3) := by decide +kernel
theorem dX7_drawn_32 : decode cX7_drawn 32 = .ok (.iload_n 3, 1) := by decide +kernel
theorem dX7_drawn_33 : decode cX7_drawn 33 = .ok (.ifCond .lt 8, 3) := by decide +kernel
theorem dX7_drawn_36 : decode cX7_drawn 36 = .ok (.iload_n 3, 1) := by decide +kernel
theorem dX7_drawn_37 : decode cX7_drawn 37 = .ok (.iconst 1, 1) := by decide +kernel
theorem dX7_drawn_38 : decode cX7_drawn 38 = .ok (.if_icmp .le 6, 3) := by decide +kernel
theorem dX7_drawn_41 : decode cX7_drawn 41 = .ok (.ldc 85, 2) := by decide +kernel
theorem dX7_drawn_43 : decode cX7_drawn 43 = .ok (.ireturn, 1) := by decide +kernel
theorem dX7_drawn_44 : decode cX7_drawn 44 = .ok (.aload_n 0, 1) := by decide +kernel
theorem dX7_drawn_45 : decode cX7_drawn 45 = .ok (.iload_n 1, 1) := by decide +kernel
theorem dX7_drawn_46 : decode cX7_drawn 46 = .ok (.iload_n 2, 1) := by decide +kernel
theorem dX7_drawn_47 : decode cX7_drawn 47 = .ok (.invokevirtual 276, 3) := by decide +kernel
theorem dX7_drawn_50 : decode cX7_drawn 50 = .ok (.istore 4, 2) := by decide +kernel
theorem dX7_drawn_52 : decode cX7_drawn 52 = .ok (.iload_n 3, 1) := by decide +kernel
theorem dX7_drawn_53 : decode cX7_drawn 53 = .ok (.ifCond .ne 6, 3) := by decide +kernel
theorem dX7_drawn_56 : decode cX7_drawn 56 = .ok (.iload 4, 2) := by decide +kernel
theorem dX7_drawn_58 : decode cX7_drawn 58 = .ok (.ireturn, 1) := by decide +kernel
theorem dX7_drawn_59 : decode cX7_drawn 59 = .ok (.aload_n 0, 1) := by decide +kernel
theorem dX7_drawn_60 : decode cX7_drawn 60 = .ok (.getfield 40, 3) := by decide +kernel
theorem dX7_drawn_63 : decode cX7_drawn 63 = .ok (.aload_n 0, 1) := by decide +kernel
theorem dX7_drawn_64 : decode cX7_drawn 64 = .ok (.getfield 37, 3) := by decide +kernel
theorem dX7_drawn_67 : decode cX7_drawn 67 = .ok (.invokevirtual 279, 3) := by decide +kernel
theorem dX7_drawn_70 : decode cX7_drawn 70 = .ok (.aload_n 0, 1) := by decide +kernel
theorem dX7_drawn_71 : decode cX7_drawn 71 = .ok (.getfield 40, 3) := by decide +kernel
theorem dX7_drawn_74 : decode cX7_drawn 74 = .ok (.aload_n 0, 1) := by decide +kernel
theorem dX7_drawn_75 : decode cX7_drawn 75 = .ok (.getfield 37, 3) := by decide +kernel
theorem dX7_drawn_78 : decode cX7_drawn 78 = .ok (.invokevirtual 282, 3) := by decide +kernel
theorem dX7_drawn_81 : decode cX7_drawn 81 = .ok (.aload_n 0, 1) := by decide +kernel
theorem dX7_drawn_82 : decode cX7_drawn 82 = .ok (.getfield 40, 3) := by decide +kernel
theorem dX7_drawn_85 : decode cX7_drawn 85 = .ok (.getfield 244, 3) := by decide +kernel
theorem dX7_drawn_88 : decode cX7_drawn 88 = .ok (.ireturn, 1) := by decide +kernel
theorem dX7_image_0 : decode cX7_image 0 = .ok (.iload_n 1, 1) := by decide +kernel
theorem dX7_image_1 : decode cX7_image 1 = .ok (.ifCond .lt 8, 3) := by decide +kernel
theorem dX7_image_4 : decode cX7_image 4 = .ok (.iload_n 1, 1) := by decide +kernel
theorem dX7_image_5 : decode cX7_image 5 = .ok (.iconst 2, 1) := by decide +kernel
theorem dX7_image_6 : decode cX7_image 6 = .ok (.if_icmp .lt 6, 3) := by decide +kernel
theorem dX7_image_9 : decode cX7_image 9 = .ok (.ldc 85, 2) := by decide +kernel
theorem dX7_image_11 : decode cX7_image 11 = .ok (.ireturn, 1) := by decide +kernel
theorem dX7_image_12 : decode cX7_image 12 = .ok (.aload_n 0, 1) := by decide +kernel
theorem dX7_image_13 : decode cX7_image 13 = .ok (.invokevirtual 167, 3) := by decide +kernel
theorem dX7_image_16 : decode cX7_image 16 = .ok (.ifCond .eq 6, 3) := by decide +kernel
theorem dX7_image_19 : decode cX7_image 19 = .ok (.ldc 157, 2) := by decide +kernel
theorem dX7_image_21 : decode cX7_image 21 = .ok (.ireturn, 1) := by decide +kernel
theorem dX7_image_22 : decode cX7_image 22 = .ok (.aload_n 0, 1) := by decide +kernel
theorem dX7_image_23 : decode cX7_image 23 = .ok (.getfield 43, 3) := by decide +kernel
theorem dX7_image_26 : decode cX7_image 26 = .ok (.iload_n 1, 1) := by decide +kernel
theorem dX7_image_27 : decode cX7_image 27 = .ok (.aaload, 1) := by decide +kernel
theorem dX7_image_28 : decode cX7_image 28 = .ok (.aload_n 0, 1) := by decide +kernel
theorem dX7_image_29 : decode cX7_image 29 = .ok (.getfield 26, 3) := by decide +kernel
theorem dX7_image_32 : decode cX7_image 32 = .ok (.invokevirtual 134, 3) := by decide +kernel
theorem dX7_image_35 : decode cX7_image 35 = .ok (.iconst 1, 1) := by decide +kernel
theorem dX7_image_36 : decode cX7_image 36 = .ok (.ireturn, 1) := by decide +kernel
theorem dX7_restore_0 : decode cX7_restore 0 = .ok (.iload_n 1, 1) := by decide +kernel
theorem dX7_restore_1 : decode cX7_restore 1 = .ok (.ifCond .lt 8, 3) := by decide +kernel
theorem dX7_restore_4 : decode cX7_restore 4 = .ok (.iload_n 1, 1) := by decide +kernel
theorem dX7_restore_5 : decode cX7_restore 5 = .ok (.iconst 2, 1) := by decide +kernel
theorem dX7_restore_6 : decode cX7_restore 6 = .ok (.if_icmp .lt 6, 3) := by decide +kernel
theorem dX7_restore_9 : decode cX7_restore 9 = .ok (.ldc 85, 2) := by decide +kernel
theorem dX7_restore_11 : decode cX7_restore 11 = .ok (.ireturn, 1) := by decide +kernel
theorem dX7_restore_12 : decode cX7_restore 12 = .ok (.aload_n 0, 1) := by decide +kernel
theorem dX7_restore_13 : decode cX7_restore 13 = .ok (.getfield 43, 3) := by decide +kernel
theorem dX7_restore_16 : decode cX7_restore 16 = .ok (.iload_n 1, 1) := by decide +kernel
theorem dX7_restore_17 : decode cX7_restore 17 = .ok (.aaload, 1) := by decide +kernel
theorem dX7_restore_18 : decode cX7_restore 18 = .ok (.getfield 144, 3) := by decide +kernel
theorem dX7_restore_21 : decode cX7_restore 21 = .ok (.ifCond .ne 6, 3) := by decide +kernel
theorem dX7_restore_24 : decode cX7_restore 24 = .ok (.ldc 157, 2) := by decide +kernel
theorem dX7_restore_26 : decode cX7_restore 26 = .ok (.ireturn, 1) := by decide +kernel
theorem dX7_restore_27 : decode cX7_restore 27 = .ok (.aload_n 0, 1) := by decide +kernel
theorem dX7_restore_28 : decode cX7_restore 28 = .ok (.getfield 26, 3) := by decide +kernel
theorem dX7_restore_31 : decode cX7_restore 31 = .ok (.aload_n 0, 1) := by decide +kernel
theorem dX7_restore_32 : decode cX7_restore 32 = .ok (.getfield 43, 3) := by decide +kernel
theorem dX7_restore_35 : decode cX7_restore 35 = .ok (.iload_n 1, 1) := by decide +kernel
theorem dX7_restore_36 : decode cX7_restore 36 = .ok (.aaload, 1) := by decide +kernel
theorem dX7_restore_37 : decode cX7_restore 37 = .ok (.invokevirtual 134, 3) := by decide +kernel
theorem dX7_restore_40 : decode cX7_restore 40 = .ok (.aload_n 0, 1) := by decide +kernel
theorem dX7_restore_41 : decode cX7_restore 41 = .ok (.getfield 50, 3) := by decide +kernel
theorem dX7_restore_44 : decode cX7_restore 44 = .ok (.invokevirtual 138, 3) := by decide +kernel
theorem dX7_restore_47 : decode cX7_restore 47 = .ok (.aload_n 0, 1) := by decide +kernel
theorem dX7_restore_48 : decode cX7_restore 48 = .ok (.invokevirtual 141, 3) := by decide +kernel
theorem dX7_restore_51 : decode cX7_restore 51 = .ok (.iconst 1, 1) := by decide +kernel
theorem dX7_restore_52 : decode cX7_restore 52 = .ok (.ireturn, 1) := by decide +kernel
theorem dX7_kind_0 : decode cX7_kind 0 = .ok (.aload_n 0, 1) := by decide +kernel
theorem dX7_kind_1 : decode cX7_kind 1 = .ok (.iload_n 1, 1) := by decide +kernel
theorem dX7_kind_2 : decode cX7_kind 2 = .ok (.invokevirtual 161, 3) := by decide +kernel
theorem dX7_kind_5 : decode cX7_kind 5 = .ok (.ifCond .eq 15, 3) := by decide +kernel
theorem dX7_kind_8 : decode cX7_kind 8 = .ok (.aload_n 0, 1) := by decide +kernel
theorem dX7_kind_9 : decode cX7_kind 9 = .ok (.getfield 26, 3) := by decide +kernel
theorem dX7_kind_12 : decode cX7_kind 12 = .ok (.getfield 164, 3) := by decide +kernel
theorem dX7_kind_15 : decode cX7_kind 15 = .ok (.iload_n 1, 1) := by decide +kernel
theorem dX7_kind_16 : decode cX7_kind 16 = .ok (.iaload, 1) := by decide +kernel
theorem dX7_kind_17 : decode cX7_kind 17 = .ok (.goto 5, 3) := by decide +kernel
theorem dX7_kind_20 : decode cX7_kind 20 = .ok (.ldc 85, 2) := by decide +kernel
theorem dX7_kind_22 : decode cX7_kind 22 = .ok (.ireturn, 1) := by decide +kernel
theorem dX7_as_0 : decode cX7_as 0 = .ok (.aload_n 0, 1) := by decide +kernel
theorem dX7_as_1 : decode cX7_as 1 = .ok (.iload_n 1, 1) := by decide +kernel
theorem dX7_as_2 : decode cX7_as 2 = .ok (.invokevirtual 161, 3) := by decide +kernel
theorem dX7_as_5 : decode cX7_as 5 = .ok (.ifCond .eq 12, 3) := by decide +kernel
theorem dX7_as_8 : decode cX7_as 8 = .ok (.iload_n 2, 1) := by decide +kernel
theorem dX7_as_9 : decode cX7_as 9 = .ok (.ifCond .lt 8, 3) := by decide +kernel
theorem dX7_as_12 : decode cX7_as 12 = .ok (.iload_n 2, 1) := by decide +kernel
theorem dX7_as_13 : decode cX7_as 13 = .ok (.iconst 5, 1) := by decide +kernel
theorem dX7_as_14 : decode cX7_as 14 = .ok (.if_icmp .le 6, 3) := by decide +kernel
theorem dX7_as_17 : decode cX7_as 17 = .ok (.ldc 85, 2) := by decide +kernel
theorem dX7_as_19 : decode cX7_as 19 = .ok (.ireturn, 1) := by decide +kernel
theorem dX7_as_20 : decode cX7_as 20 = .ok (.aload_n 0, 1) := by decide +kernel
theorem dX7_as_21 : decode cX7_as 21 = .ok (.getfield 26, 3) := by decide +kernel
theorem dX7_as_24 : decode cX7_as 24 = .ok (.getfield 164, 3) := by decide +kernel
theorem dX7_as_27 : decode cX7_as 27 = .ok (.iload_n 1, 1) := by decide +kernel
theorem dX7_as_28 : decode cX7_as 28 = .ok (.iaload, 1) := by decide +kernel
theorem dX7_as_29 : decode cX7_as 29 = .ok (.iload_n 2, 1) := by decide +kernel
theorem dX7_as_30 : decode cX7_as 30 = .ok (.invokestatic 285, 3) := by decide +kernel
theorem dX7_as_33 : decode cX7_as 33 = .ok (.ifCond .eq 11, 3) := by decide +kernel
theorem dX7_as_36 : decode cX7_as 36 = .ok (.aload_n 0, 1) := by decide +kernel
theorem dX7_as_37 : decode cX7_as 37 = .ok (.iload_n 1, 1) := by decide +kernel
theorem dX7_as_38 : decode cX7_as 38 = .ok (.invokevirtual 94, 3) := by decide +kernel
theorem dX7_as_41 : decode cX7_as 41 = .ok (.goto 8, 3) := by decide +kernel
theorem dX7_as_44 : decode cX7_as 44 = .ok (.aload_n 0, 1) := by decide +kernel
theorem dX7_as_45 : decode cX7_as 45 = .ok (.iconst 3, 1) := by decide +kernel
theorem dX7_as_46 : decode cX7_as 46 = .ok (.invokevirtual 86, 3) := by decide +kernel
theorem dX7_as_49 : decode cX7_as 49 = .ok (.ireturn, 1) := by decide +kernel
theorem dX7_ask_0 : decode cX7_ask 0 = .ok (.aload_n 0, 1) := by decide +kernel
theorem dX7_ask_1 : decode cX7_ask 1 = .ok (.iload_n 1, 1) := by decide +kernel
theorem dX7_ask_2 : decode cX7_ask 2 = .ok (.invokevirtual 161, 3) := by decide +kernel
theorem dX7_ask_5 : decode cX7_ask 5 = .ok (.ifCond .eq 12, 3) := by decide +kernel
theorem dX7_ask_8 : decode cX7_ask 8 = .ok (.iload_n 2, 1) := by decide +kernel
theorem dX7_ask_9 : decode cX7_ask 9 = .ok (.ifCond .lt 8, 3) := by decide +kernel
theorem dX7_ask_12 : decode cX7_ask 12 = .ok (.iload_n 2, 1) := by decide +kernel
theorem dX7_ask_13 : decode cX7_ask 13 = .ok (.iconst 1, 1) := by decide +kernel
theorem dX7_ask_14 : decode cX7_ask 14 = .ok (.if_icmp .le 6, 3) := by decide +kernel
theorem dX7_ask_17 : decode cX7_ask 17 = .ok (.ldc 85, 2) := by decide +kernel
theorem dX7_ask_19 : decode cX7_ask 19 = .ok (.ireturn, 1) := by decide +kernel
theorem dX7_ask_20 : decode cX7_ask 20 = .ok (.aload_n 0, 1) := by decide +kernel
theorem dX7_ask_21 : decode cX7_ask 21 = .ok (.getfield 57, 3) := by decide +kernel
theorem dX7_ask_24 : decode cX7_ask 24 = .ok (.iload_n 2, 1) := by decide +kernel
theorem dX7_ask_25 : decode cX7_ask 25 = .ok (.aload_n 0, 1) := by decide +kernel
theorem dX7_ask_26 : decode cX7_ask 26 = .ok (.getfield 26, 3) := by decide +kernel
theorem dX7_ask_29 : decode cX7_ask 29 = .ok (.getfield 164, 3) := by decide +kernel
theorem dX7_ask_32 : decode cX7_ask 32 = .ok (.iload_n 1, 1) := by decide +kernel
theorem dX7_ask_33 : decode cX7_ask 33 = .ok (.iaload, 1) := by decide +kernel
theorem dX7_ask_34 : decode cX7_ask 34 = .ok (.iload_n 1, 1) := by decide +kernel
theorem dX7_ask_35 : decode cX7_ask 35 = .ok (.aload_n 0, 1) := by decide +kernel
theorem dX7_ask_36 : decode cX7_ask 36 = .ok (.getfield 26, 3) := by decide +kernel
theorem dX7_ask_39 : decode cX7_ask 39 = .ok (.iload_n 1, 1) := by decide +kernel
theorem dX7_ask_40 : decode cX7_ask 40 = .ok (.invokevirtual 220, 3) := by decide +kernel
theorem dX7_ask_43 : decode cX7_ask 43 = .ok (.aload_n 0, 1) := by decide +kernel
theorem dX7_ask_44 : decode cX7_ask 44 = .ok (.invokevirtual 210, 3) := by decide +kernel
theorem dX7_ask_47 : decode cX7_ask 47 = .ok (.getfield 226, 3) := by decide +kernel
theorem dX7_ask_50 : decode cX7_ask 50 = .ok (.iload_n 1, 1) := by decide +kernel
theorem dX7_ask_51 : decode cX7_ask 51 = .ok (.iaload, 1) := by decide +kernel
theorem dX7_ask_52 : decode cX7_ask 52 = .ok (.invokevirtual 288, 3) := by decide +kernel
theorem dX7_ask_55 : decode cX7_ask 55 = .ok (.ireturn, 1) := by decide +kernel
theorem dX7_trace_0 : decode cX7_trace 0 = .ok (.iload_n 1, 1) := by decide +kernel
theorem dX7_trace_1 : decode cX7_trace 1 = .ok (.ifCond .lt 26, 3) := by decide +kernel
theorem dX7_trace_4 : decode cX7_trace 4 = .ok (.iload_n 1, 1) := by decide +kernel
theorem dX7_trace_5 : decode cX7_trace 5 = .ok (.aload_n 0, 1) := by decide +kernel
theorem dX7_trace_6 : decode cX7_trace 6 = .ok (.getfield 57, 3) := by decide +kernel
theorem dX7_trace_9 : decode cX7_trace 9 = .ok (.getfield 292, 3) := by decide +kernel
theorem dX7_trace_12 : decode cX7_trace 12 = .ok (.if_icmp .ge 15, 3) := by decide +kernel
theorem dX7_trace_15 : decode cX7_trace 15 = .ok (.aload_n 0, 1) := by decide +kernel
theorem dX7_trace_16 : decode cX7_trace 16 = .ok (.getfield 57, 3) := by decide +kernel
theorem dX7_trace_19 : decode cX7_trace 19 = .ok (.getfield 295, 3) := by decide +kernel
theorem dX7_trace_22 : decode cX7_trace 22 = .ok (.iload_n 1, 1) := by decide +kernel
theorem dX7_trace_23 : decode cX7_trace 23 = .ok (.iaload, 1) := by decide +kernel
theorem dX7_trace_24 : decode cX7_trace 24 = .ok (.goto 6, 3) := by decide +kernel
theorem dX7_trace_27 : decode cX7_trace 27 = .ok (.ldc_w 298, 3) := by decide +kernel
theorem dX7_trace_30 : decode cX7_trace 30 = .ok (.ireturn, 1) := by decide +kernel
theorem dX7_count_0 : decode cX7_count 0 = .ok (.iload_n 1, 1) := by decide +kernel
theorem dX7_count_1 : decode cX7_count 1 = .ok (.tableswitch 87 0 5 #[39, 47, 55, 63, 71, 79], 39) := by decide +kernel
theorem dX7_count_40 : decode cX7_count 40 = .ok (.aload_n 0, 1) := by decide +kernel
theorem dX7_count_41 : decode cX7_count 41 = .ok (.getfield 10, 3) := by decide +kernel
theorem dX7_count_44 : decode cX7_count 44 = .ok (.invokevirtual 299, 3) := by decide +kernel
theorem dX7_count_47 : decode cX7_count 47 = .ok (.ireturn, 1) := by decide +kernel
theorem dX7_count_48 : decode cX7_count 48 = .ok (.aload_n 0, 1) := by decide +kernel
theorem dX7_count_49 : decode cX7_count 49 = .ok (.getfield 26, 3) := by decide +kernel
theorem dX7_count_52 : decode cX7_count 52 = .ok (.getfield 144, 3) := by decide +kernel
theorem dX7_count_55 : decode cX7_count 55 = .ok (.ireturn, 1) := by decide +kernel
theorem dX7_count_56 : decode cX7_count 56 = .ok (.aload_n 0, 1) := by decide +kernel
theorem dX7_count_57 : decode cX7_count 57 = .ok (.getfield 26, 3) := by decide +kernel
theorem dX7_count_60 : decode cX7_count 60 = .ok (.getfield 263, 3) := by decide +kernel
theorem dX7_count_63 : decode cX7_count 63 = .ok (.ireturn, 1) := by decide +kernel
theorem dX7_count_64 : decode cX7_count 64 = .ok (.aload_n 0, 1) := by decide +kernel
theorem dX7_count_65 : decode cX7_count 65 = .ok (.getfield 26, 3) := by decide +kernel
theorem dX7_count_68 : decode cX7_count 68 = .ok (.getfield 174, 3) := by decide +kernel
theorem dX7_count_71 : decode cX7_count 71 = .ok (.ireturn, 1) := by decide +kernel
theorem dX7_count_72 : decode cX7_count 72 = .ok (.aload_n 0, 1) := by decide +kernel
theorem dX7_count_73 : decode cX7_count 73 = .ok (.getfield 50, 3) := by decide +kernel
theorem dX7_count_76 : decode cX7_count 76 = .ok (.getfield 180, 3) := by decide +kernel
theorem dX7_count_79 : decode cX7_count 79 = .ok (.ireturn, 1) := by decide +kernel
theorem dX7_count_80 : decode cX7_count 80 = .ok (.aload_n 0, 1) := by decide +kernel
theorem dX7_count_81 : decode cX7_count 81 = .ok (.getfield 19, 3) := by decide +kernel
theorem dX7_count_84 : decode cX7_count 84 = .ok (.getfield 119, 3) := by decide +kernel
theorem dX7_count_87 : decode cX7_count 87 = .ok (.ireturn, 1) := by decide +kernel
theorem dX7_count_88 : decode cX7_count 88 = .ok (.ldc 85, 2) := by decide +kernel
theorem dX7_count_90 : decode cX7_count 90 = .ok (.ireturn, 1) := by decide +kernel
theorem dX7_status_0 : decode cX7_status 0 = .ok (.aload_n 0, 1) := by decide +kernel
theorem dX7_status_1 : decode cX7_status 1 = .ok (.getfield 78, 3) := by decide +kernel
theorem dX7_status_4 : decode cX7_status 4 = .ok (.ireturn, 1) := by decide +kernel
theorem dX7_found_0 : decode cX7_found 0 = .ok (.aload_n 0, 1) := by decide +kernel
theorem dX7_found_1 : decode cX7_found 1 = .ok (.iload_n 1, 1) := by decide +kernel
theorem dX7_found_2 : decode cX7_found 2 = .ok (.putfield 78, 3) := by decide +kernel
theorem dX7_found_5 : decode cX7_found 5 = .ok (.ldc_w 302, 3) := by decide +kernel
theorem dX7_found_8 : decode cX7_found 8 = .ok (.iload_n 1, 1) := by decide +kernel
theorem dX7_found_9 : decode cX7_found 9 = .ok (.isub, 1) := by decide +kernel
theorem dX7_found_10 : decode cX7_found 10 = .ok (.ireturn, 1) := by decide +kernel
theorem dX7_fine_0 : decode cX7_fine 0 = .ok (.aload_n 0, 1) := by decide +kernel
theorem dX7_fine_1 : decode cX7_fine 1 = .ok (.iconst 0, 1) := by decide +kernel
theorem dX7_fine_2 : decode cX7_fine 2 = .ok (.putfield 78, 3) := by decide +kernel
theorem dX7_fine_5 : decode cX7_fine 5 = .ok (.iload_n 1, 1) := by decide +kernel
theorem dX7_fine_6 : decode cX7_fine 6 = .ok (.ireturn, 1) := by decide +kernel
theorem dX7_acted_0 : decode cX7_acted 0 = .ok (.aload_n 0, 1) := by decide +kernel
theorem dX7_acted_1 : decode cX7_acted 1 = .ok (.getfield 50, 3) := by decide +kernel
theorem dX7_acted_4 : decode cX7_acted 4 = .ok (.iload_n 1, 1) := by decide +kernel
theorem dX7_acted_5 : decode cX7_acted 5 = .ok (.iload_n 2, 1) := by decide +kernel
theorem dX7_acted_6 : decode cX7_acted 6 = .ok (.iload_n 3, 1) := by decide +kernel
theorem dX7_acted_7 : decode cX7_acted 7 = .ok (.invokevirtual 303, 3) := by decide +kernel
theorem dX7_acted_10 : decode cX7_acted 10 = .ok (.aload_n 0, 1) := by decide +kernel
theorem dX7_acted_11 : decode cX7_acted 11 = .ok (.invokevirtual 141, 3) := by decide +kernel
theorem dX7_acted_14 : decode cX7_acted 14 = .ok (.return_, 1) := by decide +kernel
theorem dX7_changed_0 : decode cX7_changed 0 = .ok (.aload_n 0, 1) := by decide +kernel
theorem dX7_changed_1 : decode cX7_changed 1 = .ok (.iconst 1, 1) := by decide +kernel
theorem dX7_changed_2 : decode cX7_changed 2 = .ok (.putfield 61, 3) := by decide +kernel
theorem dX7_changed_5 : decode cX7_changed 5 = .ok (.aload_n 0, 1) := by decide +kernel
theorem dX7_changed_6 : decode cX7_changed 6 = .ok (.iconst 1, 1) := by decide +kernel
theorem dX7_changed_7 : decode cX7_changed 7 = .ok (.putfield 65, 3) := by decide +kernel
theorem dX7_changed_10 : decode cX7_changed 10 = .ok (.return_, 1) := by decide +kernel
theorem dX7_isNoPiece_0 : decode cX7_isNoPiece 0 = .ok (.aload_n 0, 1) := by decide +kernel
theorem dX7_isNoPiece_1 : decode cX7_isNoPiece 1 = .ok (.getfield 26, 3) := by decide +kernel
theorem dX7_isNoPiece_4 : decode cX7_isNoPiece 4 = .ok (.getfield 144, 3) := by decide +kernel
theorem dX7_isNoPiece_7 : decode cX7_isNoPiece 7 = .ok (.ifCond .ne 7, 3) := by decide +kernel
theorem dX7_isNoPiece_10 : decode cX7_isNoPiece 10 = .ok (.iconst 1, 1) := by decide +kernel
theorem dX7_isNoPiece_11 : decode cX7_isNoPiece 11 = .ok (.goto 4, 3) := by decide +kernel
theorem dX7_isNoPiece_14 : decode cX7_isNoPiece 14 = .ok (.iconst 0, 1) := by decide +kernel
theorem dX7_isNoPiece_15 : decode cX7_isNoPiece 15 = .ok (.ireturn, 1) := by decide +kernel
theorem dX7_isChord_0 : decode cX7_isChord 0 = .ok (.iload_n 1, 1) := by decide +kernel
theorem dX7_isChord_1 : decode cX7_isChord 1 = .ok (.ifCond .lt 18, 3) := by decide +kernel
theorem dX7_isChord_4 : decode cX7_isChord 4 = .ok (.iload_n 1, 1) := by decide +kernel
theorem dX7_isChord_5 : decode cX7_isChord 5 = .ok (.aload_n 0, 1) := by decide +kernel
theorem dX7_isChord_6 : decode cX7_isChord 6 = .ok (.getfield 26, 3) := by decide +kernel
theorem dX7_isChord_9 : decode cX7_isChord 9 = .ok (.getfield 144, 3) := by decide +kernel
theorem dX7_isChord_12 : decode cX7_isChord 12 = .ok (.if_icmp .ge 7, 3) := by decide +kernel
theorem dX7_isChord_15 : decode cX7_isChord 15 = .ok (.iconst 1, 1) := by decide +kernel
theorem dX7_isChord_16 : decode cX7_isChord 16 = .ok (.goto 4, 3) := by decide +kernel
theorem dX7_isChord_19 : decode cX7_isChord 19 = .ok (.iconst 0, 1) := by decide +kernel
theorem dX7_isChord_20 : decode cX7_isChord 20 = .ok (.ireturn, 1) := by decide +kernel
theorem dX7_isNote_0 : decode cX7_isNote 0 = .ok (.iload_n 1, 1) := by decide +kernel
theorem dX7_isNote_1 : decode cX7_isNote 1 = .ok (.ifCond .lt 18, 3) := by decide +kernel
theorem dX7_isNote_4 : decode cX7_isNote 4 = .ok (.iload_n 1, 1) := by decide +kernel
theorem dX7_isNote_5 : decode cX7_isNote 5 = .ok (.aload_n 0, 1) := by decide +kernel
theorem dX7_isNote_6 : decode cX7_isNote 6 = .ok (.getfield 26, 3) := by decide +kernel
theorem dX7_isNote_9 : decode cX7_isNote 9 = .ok (.getfield 263, 3) := by decide +kernel
theorem dX7_isNote_12 : decode cX7_isNote 12 = .ok (.if_icmp .ge 7, 3) := by decide +kernel
theorem dX7_isNote_15 : decode cX7_isNote 15 = .ok (.iconst 1, 1) := by decide +kernel
theorem dX7_isNote_16 : decode cX7_isNote 16 = .ok (.goto 4, 3) := by decide +kernel
theorem dX7_isNote_19 : decode cX7_isNote 19 = .ok (.iconst 0, 1) := by decide +kernel
theorem dX7_isNote_20 : decode cX7_isNote 20 = .ok (.ireturn, 1) := by decide +kernel
theorem dX7_isKey_0 : decode cX7_isKey 0 = .ok (.iload_n 0, 1) := by decide +kernel
theorem dX7_isKey_1 : decode cX7_isKey 1 = .ok (.ifCond .lt 13, 3) := by decide +kernel
theorem dX7_isKey_4 : decode cX7_isKey 4 = .ok (.iload_n 0, 1) := by decide +kernel
theorem dX7_isKey_5 : decode cX7_isKey 5 = .ok (.bipush 12, 2) := by decide +kernel
theorem dX7_isKey_7 : decode cX7_isKey 7 = .ok (.if_icmp .ge 7, 3) := by decide +kernel
theorem dX7_isKey_10 : decode cX7_isKey 10 = .ok (.iconst 1, 1) := by decide +kernel
theorem dX7_isKey_11 : decode cX7_isKey 11 = .ok (.goto 4, 3) := by decide +kernel
theorem dX7_isKey_14 : decode cX7_isKey 14 = .ok (.iconst 0, 1) := by decide +kernel
theorem dX7_isKey_15 : decode cX7_isKey 15 = .ok (.ireturn, 1) := by decide +kernel
theorem dX7_isSignature_0 : decode cX7_isSignature 0 = .ok (.iload_n 0, 1) := by decide +kernel
theorem dX7_isSignature_1 : decode cX7_isSignature 1 = .ok (.ifCond .lt 13, 3) := by decide +kernel
theorem dX7_isSignature_4 : decode cX7_isSignature 4 = .ok (.iload_n 0, 1) := by decide +kernel
theorem dX7_isSignature_5 : decode cX7_isSignature 5 = .ok (.bipush 15, 2) := by decide +kernel
theorem dX7_isSignature_7 : decode cX7_isSignature 7 = .ok (.if_icmp .ge 7, 3) := by decide +kernel
theorem dX7_isSignature_10 : decode cX7_isSignature 10 = .ok (.iconst 1, 1) := by decide +kernel
theorem dX7_isSignature_11 : decode cX7_isSignature 11 = .ok (.goto 4, 3) := by decide +kernel
theorem dX7_isSignature_14 : decode cX7_isSignature 14 = .ok (.iconst 0, 1) := by decide +kernel
theorem dX7_isSignature_15 : decode cX7_isSignature 15 = .ok (.ireturn, 1) := by decide +kernel
theorem dX7_isWindow_0 : decode cX7_isWindow 0 = .ok (.iload_n 0, 1) := by decide +kernel
theorem dX7_isWindow_1 : decode cX7_isWindow 1 = .ok (.bipush (-15), 2) := by decide +kernel
theorem dX7_isWindow_3 : decode cX7_isWindow 3 = .ok (.if_icmp .lt 13, 3) := by decide +kernel
theorem dX7_isWindow_6 : decode cX7_isWindow 6 = .ok (.iload_n 0, 1) := by decide +kernel
theorem dX7_isWindow_7 : decode cX7_isWindow 7 = .ok (.bipush 8, 2) := by decide +kernel
theorem dX7_isWindow_9 : decode cX7_isWindow 9 = .ok (.if_icmp .gt 7, 3) := by decide +kernel
theorem dX7_isWindow_12 : decode cX7_isWindow 12 = .ok (.iconst 1, 1) := by decide +kernel
theorem dX7_isWindow_13 : decode cX7_isWindow 13 = .ok (.goto 4, 3) := by decide +kernel
theorem dX7_isWindow_16 : decode cX7_isWindow 16 = .ok (.iconst 0, 1) := by decide +kernel
theorem dX7_isWindow_17 : decode cX7_isWindow 17 = .ok (.ireturn, 1) := by decide +kernel
theorem dX7_settled_0 : decode cX7_settled 0 = .ok (.aload_n 0, 1) := by decide +kernel
theorem dX7_settled_1 : decode cX7_settled 1 = .ok (.getfield 61, 3) := by decide +kernel
theorem dX7_settled_4 : decode cX7_settled 4 = .ok (.ifCond .eq 30, 3) := by decide +kernel
theorem dX7_settled_7 : decode cX7_settled 7 = .ok (.aload_n 0, 1) := by decide +kernel
theorem dX7_settled_8 : decode cX7_settled 8 = .ok (.getfield 33, 3) := by decide +kernel
theorem dX7_settled_11 : decode cX7_settled 11 = .ok (.aload_n 0, 1) := by decide +kernel
theorem dX7_settled_12 : decode cX7_settled 12 = .ok (.getfield 26, 3) := by decide +kernel
theorem dX7_settled_15 : decode cX7_settled 15 = .ok (.invokevirtual 279, 3) := by decide +kernel
theorem dX7_settled_18 : decode cX7_settled 18 = .ok (.aload_n 0, 1) := by decide +kernel
theorem dX7_settled_19 : decode cX7_settled 19 = .ok (.getfield 33, 3) := by decide +kernel
theorem dX7_settled_22 : decode cX7_settled 22 = .ok (.aload_n 0, 1) := by decide +kernel
theorem dX7_settled_23 : decode cX7_settled 23 = .ok (.getfield 26, 3) := by decide +kernel
theorem dX7_settled_26 : decode cX7_settled 26 = .ok (.invokevirtual 282, 3) := by decide +kernel
theorem dX7_settled_29 : decode cX7_settled 29 = .ok (.aload_n 0, 1) := by decide +kernel
theorem dX7_settled_30 : decode cX7_settled 30 = .ok (.iconst 0, 1) := by decide +kernel
theorem dX7_settled_31 : decode cX7_settled 31 = .ok (.putfield 61, 3) := by decide +kernel
theorem dX7_settled_34 : decode cX7_settled 34 = .ok (.aload_n 0, 1) := by decide +kernel
theorem dX7_settled_35 : decode cX7_settled 35 = .ok (.getfield 33, 3) := by decide +kernel
theorem dX7_settled_38 : decode cX7_settled 38 = .ok (.areturn, 1) := by decide +kernel
theorem dX7_findHeads_0 : decode cX7_findHeads 0 = .ok (.aload_n 0, 1) := by decide +kernel
theorem dX7_findHeads_1 : decode cX7_findHeads 1 = .ok (.getfield 65, 3) := by decide +kernel
theorem dX7_findHeads_4 : decode cX7_findHeads 4 = .ok (.ifCond .ne 4, 3) := by decide +kernel
theorem dX7_findHeads_7 : decode cX7_findHeads 7 = .ok (.return_, 1) := by decide +kernel
theorem dX7_findHeads_8 : decode cX7_findHeads 8 = .ok (.aload_n 0, 1) := by decide +kernel
theorem dX7_findHeads_9 : decode cX7_findHeads 9 = .ok (.getfield 37, 3) := by decide +kernel
theorem dX7_findHeads_12 : decode cX7_findHeads 12 = .ok (.aload_n 0, 1) := by decide +kernel
theorem dX7_findHeads_13 : decode cX7_findHeads 13 = .ok (.getfield 26, 3) := by decide +kernel
theorem dX7_findHeads_16 : decode cX7_findHeads 16 = .ok (.invokevirtual 134, 3) := by decide +kernel
theorem dX7_findHeads_19 : decode cX7_findHeads 19 = .ok (.aload_n 0, 1) := by decide +kernel
theorem dX7_findHeads_20 : decode cX7_findHeads 20 = .ok (.ldc_w 306, 3) := by decide +kernel
theorem dX7_findHeads_23 : decode cX7_findHeads 23 = .ok (.putfield 72, 3) := by decide +kernel
theorem dX7_findHeads_26 : decode cX7_findHeads 26 = .ok (.iconst 0, 1) := by decide +kernel
theorem dX7_findHeads_27 : decode cX7_findHeads 27 = .ok (.istore_n 1, 1) := by decide +kernel
theorem dX7_findHeads_28 : decode cX7_findHeads 28 = .ok (.iload_n 1, 1) := by decide +kernel
theorem dX7_findHeads_29 : decode cX7_findHeads 29 = .ok (.bipush 15, 2) := by decide +kernel
theorem dX7_findHeads_31 : decode cX7_findHeads 31 = .ok (.if_icmp .ge 58, 3) := by decide +kernel
theorem dX7_findHeads_34 : decode cX7_findHeads 34 = .ok (.aload_n 0, 1) := by decide +kernel
theorem dX7_findHeads_35 : decode cX7_findHeads 35 = .ok (.getfield 37, 3) := by decide +kernel
theorem dX7_findHeads_38 : decode cX7_findHeads 38 = .ok (.iload_n 1, 1) := by decide +kernel
theorem dX7_findHeads_39 : decode cX7_findHeads 39 = .ok (.putfield 174, 3) := by decide +kernel
theorem dX7_findHeads_42 : decode cX7_findHeads 42 = .ok (.aload_n 0, 1) := by decide +kernel
theorem dX7_findHeads_43 : decode cX7_findHeads 43 = .ok (.getfield 40, 3) := by decide +kernel
theorem dX7_findHeads_46 : decode cX7_findHeads 46 = .ok (.aload_n 0, 1) := by decide +kernel
theorem dX7_findHeads_47 : decode cX7_findHeads 47 = .ok (.getfield 37, 3) := by decide +kernel
theorem dX7_findHeads_50 : decode cX7_findHeads 50 = .ok (.invokevirtual 279, 3) := by decide +kernel
theorem dX7_findHeads_53 : decode cX7_findHeads 53 = .ok (.aload_n 0, 1) := by decide +kernel
theorem dX7_findHeads_54 : decode cX7_findHeads 54 = .ok (.getfield 40, 3) := by decide +kernel
theorem dX7_findHeads_57 : decode cX7_findHeads 57 = .ok (.getfield 238, 3) := by decide +kernel
theorem dX7_findHeads_60 : decode cX7_findHeads 60 = .ok (.aload_n 0, 1) := by decide +kernel
theorem dX7_findHeads_61 : decode cX7_findHeads 61 = .ok (.getfield 72, 3) := by decide +kernel
theorem dX7_findHeads_64 : decode cX7_findHeads 64 = .ok (.if_icmp .ge 19, 3) := by decide +kernel
theorem dX7_findHeads_67 : decode cX7_findHeads 67 = .ok (.aload_n 0, 1) := by decide +kernel
theorem dX7_findHeads_68 : decode cX7_findHeads 68 = .ok (.aload_n 0, 1) := by decide +kernel
theorem dX7_findHeads_69 : decode cX7_findHeads 69 = .ok (.getfield 40, 3) := by decide +kernel
theorem dX7_findHeads_72 : decode cX7_findHeads 72 = .ok (.getfield 238, 3) := by decide +kernel
theorem dX7_findHeads_75 : decode cX7_findHeads 75 = .ok (.putfield 72, 3) := by decide +kernel
theorem dX7_findHeads_78 : decode cX7_findHeads 78 = .ok (.aload_n 0, 1) := by decide +kernel
theorem dX7_findHeads_79 : decode cX7_findHeads 79 = .ok (.iload_n 1, 1) := by decide +kernel
theorem dX7_findHeads_80 : decode cX7_findHeads 80 = .ok (.putfield 68, 3) := by decide +kernel
theorem dX7_findHeads_83 : decode cX7_findHeads 83 = .ok (.iinc 1 1, 3) := by decide +kernel
theorem dX7_findHeads_86 : decode cX7_findHeads 86 = .ok (.goto (-58), 3) := by decide +kernel
theorem dX7_findHeads_89 : decode cX7_findHeads 89 = .ok (.aload_n 0, 1) := by decide +kernel
theorem dX7_findHeads_90 : decode cX7_findHeads 90 = .ok (.iconst 0, 1) := by decide +kernel
theorem dX7_findHeads_91 : decode cX7_findHeads 91 = .ok (.putfield 65, 3) := by decide +kernel
theorem dX7_findHeads_94 : decode cX7_findHeads 94 = .ok (.return_, 1) := by decide +kernel
theorem dX7_signatureOfHeads_0 : decode cX7_signatureOfHeads 0 = .ok (.aload_n 0, 1) := by decide +kernel
theorem dX7_signatureOfHeads_1 : decode cX7_signatureOfHeads 1 = .ok (.invokevirtual 307, 3) := by decide +kernel
theorem dX7_signatureOfHeads_4 : decode cX7_signatureOfHeads 4 = .ok (.aload_n 0, 1) := by decide +kernel
theorem dX7_signatureOfHeads_5 : decode cX7_signatureOfHeads 5 = .ok (.getfield 68, 3) := by decide +kernel
theorem dX7_signatureOfHeads_8 : decode cX7_signatureOfHeads 8 = .ok (.ireturn, 1) := by decide +kernel
theorem dX7_costOfHeads_0 : decode cX7_costOfHeads 0 = .ok (.aload_n 0, 1) := by decide +kernel
theorem dX7_costOfHeads_1 : decode cX7_costOfHeads 1 = .ok (.invokevirtual 307, 3) := by decide +kernel
theorem dX7_costOfHeads_4 : decode cX7_costOfHeads 4 = .ok (.aload_n 0, 1) := by decide +kernel
theorem dX7_costOfHeads_5 : decode cX7_costOfHeads 5 = .ok (.getfield 72, 3) := by decide +kernel
theorem dX7_costOfHeads_8 : decode cX7_costOfHeads 8 = .ok (.ireturn, 1) := by decide +kernel
theorem dX7_costOfOne_0 : decode cX7_costOfOne 0 = .ok (.iconst 0, 1) := by decide +kernel
theorem dX7_costOfOne_1 : decode cX7_costOfOne 1 = .ok (.istore_n 2, 1) := by decide +kernel
theorem dX7_costOfOne_2 : decode cX7_costOfOne 2 = .ok (.iconst 0, 1) := by decide +kernel
theorem dX7_costOfOne_3 : decode cX7_costOfOne 3 = .ok (.istore_n 3, 1) := by decide +kernel
theorem dX7_costOfOne_4 : decode cX7_costOfOne 4 = .ok (.iload_n 3, 1) := by decide +kernel
theorem dX7_costOfOne_5 : decode cX7_costOfOne 5 = .ok (.aload_n 0, 1) := by decide +kernel
theorem dX7_costOfOne_6 : decode cX7_costOfOne 6 = .ok (.getfield 26, 3) := by decide +kernel
theorem dX7_costOfOne_9 : decode cX7_costOfOne 9 = .ok (.getfield 144, 3) := by decide +kernel
theorem dX7_costOfOne_12 : decode cX7_costOfOne 12 = .ok (.if_icmp .ge 21, 3) := by decide +kernel
theorem dX7_costOfOne_15 : decode cX7_costOfOne 15 = .ok (.iload_n 2, 1) := by decide +kernel
theorem dX7_costOfOne_16 : decode cX7_costOfOne 16 = .ok (.aload_n 0, 1) := by decide +kernel
theorem dX7_costOfOne_17 : decode cX7_costOfOne 17 = .ok (.getfield 26, 3) := by decide +kernel
theorem dX7_costOfOne_20 : decode cX7_costOfOne 20 = .ok (.iload_n 3, 1) := by decide +kernel
theorem dX7_costOfOne_21 : decode cX7_costOfOne 21 = .ok (.iload_n 1, 1) := by decide +kernel
theorem dX7_costOfOne_22 : decode cX7_costOfOne 22 = .ok (.invokevirtual 229, 3) := by decide +kernel
theorem dX7_costOfOne_25 : decode cX7_costOfOne 25 = .ok (.iadd, 1) := by decide +kernel
theorem dX7_costOfOne_26 : decode cX7_costOfOne 26 = .ok (.istore_n 2, 1) := by decide +kernel
theorem dX7_costOfOne_27 : decode cX7_costOfOne 27 = .ok (.iinc 3 1, 3) := by decide +kernel
theorem dX7_costOfOne_30 : decode cX7_costOfOne 30 = .ok (.goto (-26), 3) := by decide +kernel
theorem dX7_costOfOne_33 : decode cX7_costOfOne 33 = .ok (.iload_n 2, 1) := by decide +kernel
theorem dX7_costOfOne_34 : decode cX7_costOfOne 34 = .ok (.ireturn, 1) := by decide +kernel
theorem dX7_cheapestOne_0 : decode cX7_cheapestOne 0 = .ok (.bipush (-15), 2) := by decide +kernel
theorem dX7_cheapestOne_2 : decode cX7_cheapestOne 2 = .ok (.istore_n 1, 1) := by decide +kernel
theorem dX7_cheapestOne_3 : decode cX7_cheapestOne 3 = .ok (.aload_n 0, 1) := by decide +kernel
theorem dX7_cheapestOne_4 : decode cX7_cheapestOne 4 = .ok (.bipush (-15), 2) := by decide +kernel
theorem dX7_cheapestOne_6 : decode cX7_cheapestOne 6 = .ok (.invokevirtual 257, 3) := by decide +kernel
theorem dX7_cheapestOne_9 : decode cX7_cheapestOne 9 = .ok (.istore_n 2, 1) := by decide +kernel
theorem dX7_cheapestOne_10 : decode cX7_cheapestOne 10 = .ok (.bipush (-14), 2) := by decide +kernel
theorem dX7_cheapestOne_12 : decode cX7_cheapestOne 12 = .ok (.istore_n 3, 1) := by decide +kernel
theorem dX7_cheapestOne_13 : decode cX7_cheapestOne 13 = .ok (.iload_n 3, 1) := by decide +kernel
theorem dX7_cheapestOne_14 : decode cX7_cheapestOne 14 = .ok (.bipush 8, 2) := by decide +kernel
theorem dX7_cheapestOne_16 : decode cX7_cheapestOne 16 = .ok (.if_icmp .gt 27, 3) := by decide +kernel
theorem dX7_cheapestOne_19 : decode cX7_cheapestOne 19 = .ok (.aload_n 0, 1) := by decide +kernel
theorem dX7_cheapestOne_20 : decode cX7_cheapestOne 20 = .ok (.iload_n 3, 1) := by decide +kernel
theorem dX7_cheapestOne_21 : decode cX7_cheapestOne 21 = .ok (.invokevirtual 257, 3) := by decide +kernel
theorem dX7_cheapestOne_24 : decode cX7_cheapestOne 24 = .ok (.istore 4, 2) := by decide +kernel
theorem dX7_cheapestOne_26 : decode cX7_cheapestOne 26 = .ok (.iload 4, 2) := by decide +kernel
theorem dX7_cheapestOne_28 : decode cX7_cheapestOne 28 = .ok (.iload_n 2, 1) := by decide +kernel
theorem dX7_cheapestOne_29 : decode cX7_cheapestOne 29 = .ok (.if_icmp .ge 8, 3) := by decide +kernel
theorem dX7_cheapestOne_32 : decode cX7_cheapestOne 32 = .ok (.iload 4, 2) := by decide +kernel
theorem dX7_cheapestOne_34 : decode cX7_cheapestOne 34 = .ok (.istore_n 2, 1) := by decide +kernel
theorem dX7_cheapestOne_35 : decode cX7_cheapestOne 35 = .ok (.iload_n 3, 1) := by decide +kernel
theorem dX7_cheapestOne_36 : decode cX7_cheapestOne 36 = .ok (.istore_n 1, 1) := by decide +kernel
theorem dX7_cheapestOne_37 : decode cX7_cheapestOne 37 = .ok (.iinc 3 1, 3) := by decide +kernel
theorem dX7_cheapestOne_40 : decode cX7_cheapestOne 40 = .ok (.goto (-27), 3) := by decide +kernel
theorem dX7_cheapestOne_43 : decode cX7_cheapestOne 43 = .ok (.iload_n 1, 1) := by decide +kernel
theorem dX7_cheapestOne_44 : decode cX7_cheapestOne 44 = .ok (.ireturn, 1) := by decide +kernel
theorem dX7_costOfItems_0 : decode cX7_costOfItems 0 = .ok (.iconst 0, 1) := by decide +kernel
theorem dX7_costOfItems_1 : decode cX7_costOfItems 1 = .ok (.istore_n 3, 1) := by decide +kernel
theorem dX7_costOfItems_2 : decode cX7_costOfItems 2 = .ok (.iconst 0, 1) := by decide +kernel
theorem dX7_costOfItems_3 : decode cX7_costOfItems 3 = .ok (.istore 4, 2) := by decide +kernel
theorem dX7_costOfItems_5 : decode cX7_costOfItems 5 = .ok (.iload 4, 2) := by decide +kernel
theorem dX7_costOfItems_7 : decode cX7_costOfItems 7 = .ok (.aload_n 0, 1) := by decide +kernel
theorem dX7_costOfItems_8 : decode cX7_costOfItems 8 = .ok (.getfield 26, 3) := by decide +kernel
theorem dX7_costOfItems_11 : decode cX7_costOfItems 11 = .ok (.getfield 144, 3) := by decide +kernel
theorem dX7_costOfItems_14 : decode cX7_costOfItems 14 = .ok (.if_icmp .ge 109, 3) := by decide +kernel
theorem dX7_costOfItems_17 : decode cX7_costOfItems 17 = .ok (.aload_n 0, 1) := by decide +kernel
theorem dX7_costOfItems_18 : decode cX7_costOfItems 18 = .ok (.getfield 10, 3) := by decide +kernel
theorem dX7_costOfItems_21 : decode cX7_costOfItems 21 = .ok (.iload_n 1, 1) := by decide +kernel
theorem dX7_costOfItems_22 : decode cX7_costOfItems 22 = .ok (.iload_n 2, 1) := by decide +kernel
theorem dX7_costOfItems_23 : decode cX7_costOfItems 23 = .ok (.iload 4, 2) := by decide +kernel
theorem dX7_costOfItems_25 : decode cX7_costOfItems 25 = .ok (.iadd, 1) := by decide +kernel
theorem dX7_costOfItems_26 : decode cX7_costOfItems 26 = .ok (.invokevirtual 310, 3) := by decide +kernel
theorem dX7_costOfItems_29 : decode cX7_costOfItems 29 = .ok (.istore 5, 2) := by decide +kernel
theorem dX7_costOfItems_31 : decode cX7_costOfItems 31 = .ok (.iload 5, 2) := by decide +kernel
theorem dX7_costOfItems_33 : decode cX7_costOfItems 33 = .ok (.invokestatic 197, 3) := by decide +kernel
theorem dX7_costOfItems_36 : decode cX7_costOfItems 36 = .ok (.ifCond .ne 7, 3) := by decide +kernel
theorem dX7_costOfItems_39 : decode cX7_costOfItems 39 = .ok (.ldc_w 298, 3) := by decide +kernel
theorem dX7_costOfItems_42 : decode cX7_costOfItems 42 = .ok (.ireturn, 1) := by decide +kernel
theorem dX7_costOfItems_43 : decode cX7_costOfItems 43 = .ok (.iload 4, 2) := by decide +kernel
theorem dX7_costOfItems_45 : decode cX7_costOfItems 45 = .ok (.ifCond .le 58, 3) := by decide +kernel
theorem dX7_costOfItems_48 : decode cX7_costOfItems 48 = .ok (.aload_n 0, 1) := by decide +kernel
theorem dX7_costOfItems_49 : decode cX7_costOfItems 49 = .ok (.getfield 10, 3) := by decide +kernel
theorem dX7_costOfItems_52 : decode cX7_costOfItems 52 = .ok (.iload_n 1, 1) := by decide +kernel
theorem dX7_costOfItems_53 : decode cX7_costOfItems 53 = .ok (.iload_n 2, 1) := by decide +kernel
theorem dX7_costOfItems_54 : decode cX7_costOfItems 54 = .ok (.iload 4, 2) := by decide +kernel
theorem dX7_costOfItems_56 : decode cX7_costOfItems 56 = .ok (.iadd, 1) := by decide +kernel
theorem dX7_costOfItems_57 : decode cX7_costOfItems 57 = .ok (.iconst 1, 1) := by decide +kernel
theorem dX7_costOfItems_58 : decode cX7_costOfItems 58 = .ok (.isub, 1) := by decide +kernel
theorem dX7_costOfItems_59 : decode cX7_costOfItems 59 = .ok (.invokevirtual 310, 3) := by decide +kernel
theorem dX7_costOfItems_62 : decode cX7_costOfItems 62 = .ok (.istore 6, 2) := by decide +kernel
theorem dX7_costOfItems_64 : decode cX7_costOfItems 64 = .ok (.aload_n 0, 1) := by decide +kernel
theorem dX7_costOfItems_65 : decode cX7_costOfItems 65 = .ok (.getfield 26, 3) := by decide +kernel
theorem dX7_costOfItems_68 : decode cX7_costOfItems 68 = .ok (.iload 4, 2) := by decide +kernel
theorem dX7_costOfItems_70 : decode cX7_costOfItems 70 = .ok (.invokevirtual 313, 3) := by decide +kernel
theorem dX7_costOfItems_73 : decode cX7_costOfItems 73 = .ok (.ifCond .eq 14, 3) := by decide +kernel
theorem dX7_costOfItems_76 : decode cX7_costOfItems 76 = .ok (.iload 5, 2) := by decide +kernel
theorem dX7_costOfItems_78 : decode cX7_costOfItems 78 = .ok (.iload 6, 2) := by decide +kernel
theorem dX7_costOfItems_80 : decode cX7_costOfItems 80 = .ok (.if_icmp .eq 7, 3) := by decide +kernel
theorem dX7_costOfItems_83 : decode cX7_costOfItems 83 = .ok (.ldc_w 298, 3) := by decide +kernel
theorem dX7_costOfItems_86 : decode cX7_costOfItems 86 = .ok (.ireturn, 1) := by decide +kernel
theorem dX7_costOfItems_87 : decode cX7_costOfItems 87 = .ok (.iload_n 3, 1) := by decide +kernel
theorem dX7_costOfItems_88 : decode cX7_costOfItems 88 = .ok (.aload_n 0, 1) := by decide +kernel
theorem dX7_costOfItems_89 : decode cX7_costOfItems 89 = .ok (.getfield 26, 3) := by decide +kernel
theorem dX7_costOfItems_92 : decode cX7_costOfItems 92 = .ok (.iload 4, 2) := by decide +kernel
theorem dX7_costOfItems_94 : decode cX7_costOfItems 94 = .ok (.iload 6, 2) := by decide +kernel
theorem dX7_costOfItems_96 : decode cX7_costOfItems 96 = .ok (.iload 5, 2) := by decide +kernel
theorem dX7_costOfItems_98 : decode cX7_costOfItems 98 = .ok (.invokevirtual 316, 3) := by decide +kernel
theorem dX7_costOfItems_101 : decode cX7_costOfItems 101 = .ok (.iadd, 1) := by decide +kernel
theorem dX7_costOfItems_102 : decode cX7_costOfItems 102 = .ok (.istore_n 3, 1) := by decide +kernel
theorem dX7_costOfItems_103 : decode cX7_costOfItems 103 = .ok (.iload_n 3, 1) := by decide +kernel
theorem dX7_costOfItems_104 : decode cX7_costOfItems 104 = .ok (.aload_n 0, 1) := by decide +kernel
theorem dX7_costOfItems_105 : decode cX7_costOfItems 105 = .ok (.getfield 26, 3) := by decide +kernel
theorem dX7_costOfItems_108 : decode cX7_costOfItems 108 = .ok (.iload 4, 2) := by decide +kernel
theorem dX7_costOfItems_110 : decode cX7_costOfItems 110 = .ok (.iload 5, 2) := by decide +kernel
theorem dX7_costOfItems_112 : decode cX7_costOfItems 112 = .ok (.invokevirtual 229, 3) := by decide +kernel
theorem dX7_costOfItems_115 : decode cX7_costOfItems 115 = .ok (.iadd, 1) := by decide +kernel
theorem dX7_costOfItems_116 : decode cX7_costOfItems 116 = .ok (.istore_n 3, 1) := by decide +kernel
theorem dX7_costOfItems_117 : decode cX7_costOfItems 117 = .ok (.iinc 4 1, 3) := by decide +kernel
theorem dX7_costOfItems_120 : decode cX7_costOfItems 120 = .ok (.goto (-115), 3) := by decide +kernel
theorem dX7_costOfItems_123 : decode cX7_costOfItems 123 = .ok (.iload_n 3, 1) := by decide +kernel
theorem dX7_costOfItems_124 : decode cX7_costOfItems 124 = .ok (.ireturn, 1) := by decide +kernel
theorem dX7_fittingSignatures_0 : decode cX7_fittingSignatures 0 = .ok (.iconst 0, 1) := by decide +kernel
theorem dX7_fittingSignatures_1 : decode cX7_fittingSignatures 1 = .ok (.istore_n 3, 1) := by decide +kernel
theorem dX7_fittingSignatures_2 : decode cX7_fittingSignatures 2 = .ok (.aload_n 0, 1) := by decide +kernel
theorem dX7_fittingSignatures_3 : decode cX7_fittingSignatures 3 = .ok (.getfield 37, 3) := by decide +kernel
theorem dX7_fittingSignatures_6 : decode cX7_fittingSignatures 6 = .ok (.aload_n 0, 1) := by decide +kernel
theorem dX7_fittingSignatures_7 : decode cX7_fittingSignatures 7 = .ok (.getfield 26, 3) := by decide +kernel
theorem dX7_fittingSignatures_10 : decode cX7_fittingSignatures 10 = .ok (.invokevirtual 134, 3) := by decide +kernel
theorem dX7_fittingSignatures_13 : decode cX7_fittingSignatures 13 = .ok (.iconst 0, 1) := by decide +kernel
theorem dX7_fittingSignatures_14 : decode cX7_fittingSignatures 14 = .ok (.istore 4, 2) := by decide +kernel
theorem dX7_fittingSignatures_16 : decode cX7_fittingSignatures 16 = .ok (.iload 4, 2) := by decide +kernel
theorem dX7_fittingSignatures_18 : decode cX7_fittingSignatures 18 = .ok (.bipush 15, 2) := by decide +kernel
theorem dX7_fittingSignatures_20 : decode cX7_fittingSignatures 20 = .ok (.if_icmp .ge 29, 3) := by decide +kernel
theorem dX7_fittingSignatures_23 : decode cX7_fittingSignatures 23 = .ok (.aload_n 0, 1) := by decide +kernel
theorem dX7_fittingSignatures_24 : decode cX7_fittingSignatures 24 = .ok (.getfield 37, 3) := by decide +kernel
theorem dX7_fittingSignatures_27 : decode cX7_fittingSignatures 27 = .ok (.iload 4, 2) := by decide +kernel
theorem dX7_fittingSignatures_29 : decode cX7_fittingSignatures 29 = .ok (.putfield 174, 3) := by decide +kernel
theorem dX7_fittingSignatures_32 : decode cX7_fittingSignatures 32 = .ok (.iload_n 3, 1) := by decide +kernel
theorem dX7_fittingSignatures_33 : decode cX7_fittingSignatures 33 = .ok (.aload_n 0, 1) := by decide +kernel
theorem dX7_fittingSignatures_34 : decode cX7_fittingSignatures 34 = .ok (.iload 4, 2) := by decide +kernel
theorem dX7_fittingSignatures_36 : decode cX7_fittingSignatures 36 = .ok (.iload_n 1, 1) := by decide +kernel
theorem dX7_fittingSignatures_37 : decode cX7_fittingSignatures 37 = .ok (.iload_n 2, 1) := by decide +kernel
theorem dX7_fittingSignatures_38 : decode cX7_fittingSignatures 38 = .ok (.invokevirtual 319, 3) := by decide +kernel
theorem dX7_fittingSignatures_41 : decode cX7_fittingSignatures 41 = .ok (.ior, 1) := by decide +kernel
theorem dX7_fittingSignatures_42 : decode cX7_fittingSignatures 42 = .ok (.istore_n 3, 1) := by decide +kernel
theorem dX7_fittingSignatures_43 : decode cX7_fittingSignatures 43 = .ok (.iinc 4 1, 3) := by decide +kernel
theorem dX7_fittingSignatures_46 : decode cX7_fittingSignatures 46 = .ok (.goto (-30), 3) := by decide +kernel
theorem dX7_fittingSignatures_49 : decode cX7_fittingSignatures 49 = .ok (.iload_n 3, 1) := by decide +kernel
theorem dX7_fittingSignatures_50 : decode cX7_fittingSignatures 50 = .ok (.ireturn, 1) := by decide +kernel
theorem dX7_fittingKinds_0 : decode cX7_fittingKinds 0 = .ok (.iconst 0, 1) := by decide +kernel
theorem dX7_fittingKinds_1 : decode cX7_fittingKinds 1 = .ok (.istore 4, 2) := by decide +kernel
theorem dX7_fittingKinds_3 : decode cX7_fittingKinds 3 = .ok (.aload_n 0, 1) := by decide +kernel
theorem dX7_fittingKinds_4 : decode cX7_fittingKinds 4 = .ok (.getfield 37, 3) := by decide +kernel
theorem dX7_fittingKinds_7 : decode cX7_fittingKinds 7 = .ok (.aload_n 0, 1) := by decide +kernel
theorem dX7_fittingKinds_8 : decode cX7_fittingKinds 8 = .ok (.getfield 26, 3) := by decide +kernel
theorem dX7_fittingKinds_11 : decode cX7_fittingKinds 11 = .ok (.invokevirtual 134, 3) := by decide +kernel
theorem dX7_fittingKinds_14 : decode cX7_fittingKinds 14 = .ok (.iconst 1, 1) := by decide +kernel
theorem dX7_fittingKinds_15 : decode cX7_fittingKinds 15 = .ok (.istore 5, 2) := by decide +kernel
theorem dX7_fittingKinds_17 : decode cX7_fittingKinds 17 = .ok (.iload 5, 2) := by decide +kernel
theorem dX7_fittingKinds_19 : decode cX7_fittingKinds 19 = .ok (.iconst 5, 1) := by decide +kernel
theorem dX7_fittingKinds_20 : decode cX7_fittingKinds 20 = .ok (.if_icmp .gt 33, 3) := by decide +kernel
theorem dX7_fittingKinds_23 : decode cX7_fittingKinds 23 = .ok (.aload_n 0, 1) := by decide +kernel
theorem dX7_fittingKinds_24 : decode cX7_fittingKinds 24 = .ok (.getfield 37, 3) := by decide +kernel
theorem dX7_fittingKinds_27 : decode cX7_fittingKinds 27 = .ok (.getfield 164, 3) := by decide +kernel
theorem dX7_fittingKinds_30 : decode cX7_fittingKinds 30 = .ok (.iload_n 1, 1) := by decide +kernel
theorem dX7_fittingKinds_31 : decode cX7_fittingKinds 31 = .ok (.iload 5, 2) := by decide +kernel
theorem dX7_fittingKinds_33 : decode cX7_fittingKinds 33 = .ok (.iastore, 1) := by decide +kernel
theorem dX7_fittingKinds_34 : decode cX7_fittingKinds 34 = .ok (.iload 4, 2) := by decide +kernel
theorem dX7_fittingKinds_36 : decode cX7_fittingKinds 36 = .ok (.aload_n 0, 1) := by decide +kernel
theorem dX7_fittingKinds_37 : decode cX7_fittingKinds 37 = .ok (.iload 5, 2) := by decide +kernel
theorem dX7_fittingKinds_39 : decode cX7_fittingKinds 39 = .ok (.iload_n 2, 1) := by decide +kernel
theorem dX7_fittingKinds_40 : decode cX7_fittingKinds 40 = .ok (.iload_n 3, 1) := by decide +kernel
theorem dX7_fittingKinds_41 : decode cX7_fittingKinds 41 = .ok (.invokevirtual 319, 3) := by decide +kernel
theorem dX7_fittingKinds_44 : decode cX7_fittingKinds 44 = .ok (.ior, 1) := by decide +kernel
theorem dX7_fittingKinds_45 : decode cX7_fittingKinds 45 = .ok (.istore 4, 2) := by decide +kernel
theorem dX7_fittingKinds_47 : decode cX7_fittingKinds 47 = .ok (.iinc 5 1, 3) := by decide +kernel
theorem dX7_fittingKinds_50 : decode cX7_fittingKinds 50 = .ok (.goto (-33), 3) := by decide +kernel
theorem dX7_fittingKinds_53 : decode cX7_fittingKinds 53 = .ok (.iload 4, 2) := by decide +kernel
theorem dX7_fittingKinds_55 : decode cX7_fittingKinds 55 = .ok (.ireturn, 1) := by decide +kernel
theorem dX7_fittingKeys_0 : decode cX7_fittingKeys 0 = .ok (.iconst 0, 1) := by decide +kernel
theorem dX7_fittingKeys_1 : decode cX7_fittingKeys 1 = .ok (.istore 4, 2) := by decide +kernel
theorem dX7_fittingKeys_3 : decode cX7_fittingKeys 3 = .ok (.aload_n 0, 1) := by decide +kernel
theorem dX7_fittingKeys_4 : decode cX7_fittingKeys 4 = .ok (.getfield 37, 3) := by decide +kernel
theorem dX7_fittingKeys_7 : decode cX7_fittingKeys 7 = .ok (.aload_n 0, 1) := by decide +kernel
theorem dX7_fittingKeys_8 : decode cX7_fittingKeys 8 = .ok (.getfield 26, 3) := by decide +kernel
theorem dX7_fittingKeys_11 : decode cX7_fittingKeys 11 = .ok (.invokevirtual 134, 3) := by decide +kernel
theorem dX7_fittingKeys_14 : decode cX7_fittingKeys 14 = .ok (.iconst 0, 1) := by decide +kernel
theorem dX7_fittingKeys_15 : decode cX7_fittingKeys 15 = .ok (.istore 5, 2) := by decide +kernel
theorem dX7_fittingKeys_17 : decode cX7_fittingKeys 17 = .ok (.iload 5, 2) := by decide +kernel
theorem dX7_fittingKeys_19 : decode cX7_fittingKeys 19 = .ok (.bipush 12, 2) := by decide +kernel
theorem dX7_fittingKeys_21 : decode cX7_fittingKeys 21 = .ok (.if_icmp .ge 33, 3) := by decide +kernel
theorem dX7_fittingKeys_24 : decode cX7_fittingKeys 24 = .ok (.aload_n 0, 1) := by decide +kernel
theorem dX7_fittingKeys_25 : decode cX7_fittingKeys 25 = .ok (.getfield 37, 3) := by decide +kernel
theorem dX7_fittingKeys_28 : decode cX7_fittingKeys 28 = .ok (.getfield 153, 3) := by decide +kernel
theorem dX7_fittingKeys_31 : decode cX7_fittingKeys 31 = .ok (.iload_n 1, 1) := by decide +kernel
theorem dX7_fittingKeys_32 : decode cX7_fittingKeys 32 = .ok (.iload 5, 2) := by decide +kernel
theorem dX7_fittingKeys_34 : decode cX7_fittingKeys 34 = .ok (.iastore, 1) := by decide +kernel
theorem dX7_fittingKeys_35 : decode cX7_fittingKeys 35 = .ok (.iload 4, 2) := by decide +kernel
theorem dX7_fittingKeys_37 : decode cX7_fittingKeys 37 = .ok (.aload_n 0, 1) := by decide +kernel
theorem dX7_fittingKeys_38 : decode cX7_fittingKeys 38 = .ok (.iload 5, 2) := by decide +kernel
theorem dX7_fittingKeys_40 : decode cX7_fittingKeys 40 = .ok (.iload_n 2, 1) := by decide +kernel
theorem dX7_fittingKeys_41 : decode cX7_fittingKeys 41 = .ok (.iload_n 3, 1) := by decide +kernel
theorem dX7_fittingKeys_42 : decode cX7_fittingKeys 42 = .ok (.invokevirtual 319, 3) := by decide +kernel
theorem dX7_fittingKeys_45 : decode cX7_fittingKeys 45 = .ok (.ior, 1) := by decide +kernel
theorem dX7_fittingKeys_46 : decode cX7_fittingKeys 46 = .ok (.istore 4, 2) := by decide +kernel
theorem dX7_fittingKeys_48 : decode cX7_fittingKeys 48 = .ok (.iinc 5 1, 3) := by decide +kernel
theorem dX7_fittingKeys_51 : decode cX7_fittingKeys 51 = .ok (.goto (-34), 3) := by decide +kernel
theorem dX7_fittingKeys_54 : decode cX7_fittingKeys 54 = .ok (.iload 4, 2) := by decide +kernel
theorem dX7_fittingKeys_56 : decode cX7_fittingKeys 56 = .ok (.ireturn, 1) := by decide +kernel
theorem dX7_bitIfLettersFit_0 : decode cX7_bitIfLettersFit 0 = .ok (.aload_n 0, 1) := by decide +kernel
theorem dX7_bitIfLettersFit_1 : decode cX7_bitIfLettersFit 1 = .ok (.getfield 40, 3) := by decide +kernel
theorem dX7_bitIfLettersFit_4 : decode cX7_bitIfLettersFit 4 = .ok (.aload_n 0, 1) := by decide +kernel
theorem dX7_bitIfLettersFit_5 : decode cX7_bitIfLettersFit 5 = .ok (.getfield 37, 3) := by decide +kernel
theorem dX7_bitIfLettersFit_8 : decode cX7_bitIfLettersFit 8 = .ok (.invokevirtual 279, 3) := by decide +kernel
theorem dX7_bitIfLettersFit_11 : decode cX7_bitIfLettersFit 11 = .ok (.aload_n 0, 1) := by decide +kernel
theorem dX7_bitIfLettersFit_12 : decode cX7_bitIfLettersFit 12 = .ok (.getfield 40, 3) := by decide +kernel
theorem dX7_bitIfLettersFit_15 : decode cX7_bitIfLettersFit 15 = .ok (.aload_n 0, 1) := by decide +kernel
theorem dX7_bitIfLettersFit_16 : decode cX7_bitIfLettersFit 16 = .ok (.getfield 37, 3) := by decide +kernel
theorem dX7_bitIfLettersFit_19 : decode cX7_bitIfLettersFit 19 = .ok (.invokevirtual 282, 3) := by decide +kernel
theorem dX7_bitIfLettersFit_22 : decode cX7_bitIfLettersFit 22 = .ok (.iconst 0, 1) := by decide +kernel
theorem dX7_bitIfLettersFit_23 : decode cX7_bitIfLettersFit 23 = .ok (.istore 4, 2) := by decide +kernel
theorem dX7_bitIfLettersFit_25 : decode cX7_bitIfLettersFit 25 = .ok (.iload 4, 2) := by decide +kernel
theorem dX7_bitIfLettersFit_27 : decode cX7_bitIfLettersFit 27 = .ok (.iload_n 3, 1) := by decide +kernel
theorem dX7_bitIfLettersFit_28 : decode cX7_bitIfLettersFit 28 = .ok (.if_icmp .ge 37, 3) := by decide +kernel
theorem dX7_bitIfLettersFit_31 : decode cX7_bitIfLettersFit 31 = .ok (.aload_n 0, 1) := by decide +kernel
theorem dX7_bitIfLettersFit_32 : decode cX7_bitIfLettersFit 32 = .ok (.getfield 10, 3) := by decide +kernel
theorem dX7_bitIfLettersFit_35 : decode cX7_bitIfLettersFit 35 = .ok (.iload_n 2, 1) := by decide +kernel
theorem dX7_bitIfLettersFit_36 : decode cX7_bitIfLettersFit 36 = .ok (.iload 4, 2) := by decide +kernel
theorem dX7_bitIfLettersFit_38 : decode cX7_bitIfLettersFit 38 = .ok (.invokevirtual 310, 3) := by decide +kernel
theorem dX7_bitIfLettersFit_41 : decode cX7_bitIfLettersFit 41 = .ok (.aload_n 0, 1) := by decide +kernel
theorem dX7_bitIfLettersFit_42 : decode cX7_bitIfLettersFit 42 = .ok (.getfield 40, 3) := by decide +kernel
theorem dX7_bitIfLettersFit_45 : decode cX7_bitIfLettersFit 45 = .ok (.getfield 214, 3) := by decide +kernel
theorem dX7_bitIfLettersFit_48 : decode cX7_bitIfLettersFit 48 = .ok (.iload 4, 2) := by decide +kernel
theorem dX7_bitIfLettersFit_50 : decode cX7_bitIfLettersFit 50 = .ok (.iaload, 1) := by decide +kernel
theorem dX7_bitIfLettersFit_51 : decode cX7_bitIfLettersFit 51 = .ok (.invokestatic 186, 3) := by decide +kernel
theorem dX7_bitIfLettersFit_54 : decode cX7_bitIfLettersFit 54 = .ok (.if_icmp .eq 5, 3) := by decide +kernel
theorem dX7_bitIfLettersFit_57 : decode cX7_bitIfLettersFit 57 = .ok (.iconst 0, 1) := by decide +kernel
theorem dX7_bitIfLettersFit_58 : decode cX7_bitIfLettersFit 58 = .ok (.ireturn, 1) := by decide +kernel
theorem dX7_bitIfLettersFit_59 : decode cX7_bitIfLettersFit 59 = .ok (.iinc 4 1, 3) := by decide +kernel
theorem dX7_bitIfLettersFit_62 : decode cX7_bitIfLettersFit 62 = .ok (.goto (-37), 3) := by decide +kernel
theorem dX7_bitIfLettersFit_65 : decode cX7_bitIfLettersFit 65 = .ok (.iconst 1, 1) := by decide +kernel
theorem dX7_bitIfLettersFit_66 : decode cX7_bitIfLettersFit 66 = .ok (.iload_n 1, 1) := by decide +kernel
theorem dX7_bitIfLettersFit_67 : decode cX7_bitIfLettersFit 67 = .ok (.ishl, 1) := by decide +kernel
theorem dX7_bitIfLettersFit_68 : decode cX7_bitIfLettersFit 68 = .ok (.ireturn, 1) := by decide +kernel
theorem dX7_drawOnTrial_0 : decode cX7_drawOnTrial 0 = .ok (.aload_n 0, 1) := by decide +kernel
theorem dX7_drawOnTrial_1 : decode cX7_drawOnTrial 1 = .ok (.getfield 37, 3) := by decide +kernel
theorem dX7_drawOnTrial_4 : decode cX7_drawOnTrial 4 = .ok (.aload_n 0, 1) := by decide +kernel
theorem dX7_drawOnTrial_5 : decode cX7_drawOnTrial 5 = .ok (.getfield 26, 3) := by decide +kernel
theorem dX7_drawOnTrial_8 : decode cX7_drawOnTrial 8 = .ok (.invokevirtual 134, 3) := by decide +kernel
theorem dX7_drawOnTrial_11 : decode cX7_drawOnTrial 11 = .ok (.iload_n 2, 1) := by decide +kernel
theorem dX7_drawOnTrial_12 : decode cX7_drawOnTrial 12 = .ok (.i2l, 1) := by decide +kernel
theorem dX7_drawOnTrial_13 : decode cX7_drawOnTrial 13 = .ok (.lstore_n 3, 1) := by decide +kernel
theorem dX7_drawOnTrial_14 : decode cX7_drawOnTrial 14 = .ok (.iconst 0, 1) := by decide +kernel
theorem dX7_drawOnTrial_15 : decode cX7_drawOnTrial 15 = .ok (.istore 5, 2) := by decide +kernel
theorem dX7_drawOnTrial_17 : decode cX7_drawOnTrial 17 = .ok (.iconst 0, 1) := by decide +kernel
theorem dX7_drawOnTrial_18 : decode cX7_drawOnTrial 18 = .ok (.istore 6, 2) := by decide +kernel
theorem dX7_drawOnTrial_20 : decode cX7_drawOnTrial 20 = .ok (.iload 6, 2) := by decide +kernel
theorem dX7_drawOnTrial_22 : decode cX7_drawOnTrial 22 = .ok (.iload_n 1, 1) := by decide +kernel
theorem dX7_drawOnTrial_23 : decode cX7_drawOnTrial 23 = .ok (.if_icmp .ge 81, 3) := by decide +kernel
theorem dX7_drawOnTrial_26 : decode cX7_drawOnTrial 26 = .ok (.aload_n 0, 1) := by decide +kernel
theorem dX7_drawOnTrial_27 : decode cX7_drawOnTrial 27 = .ok (.getfield 37, 3) := by decide +kernel
theorem dX7_drawOnTrial_30 : decode cX7_drawOnTrial 30 = .ok (.getfield 263, 3) := by decide +kernel
theorem dX7_drawOnTrial_33 : decode cX7_drawOnTrial 33 = .ok (.ifCond .le 71, 3) := by decide +kernel
theorem dX7_drawOnTrial_36 : decode cX7_drawOnTrial 36 = .ok (.lload_n 3, 1) := by decide +kernel
theorem dX7_drawOnTrial_37 : decode cX7_drawOnTrial 37 = .ok (.ldc2_w 322, 3) := by decide +kernel
theorem dX7_drawOnTrial_40 : decode cX7_drawOnTrial 40 = .ok (.lmul, 1) := by decide +kernel
theorem dX7_drawOnTrial_41 : decode cX7_drawOnTrial 41 = .ok (.ldc2_w 324, 3) := by decide +kernel
theorem dX7_drawOnTrial_44 : decode cX7_drawOnTrial 44 = .ok (.lrem, 1) := by decide +kernel
theorem dX7_drawOnTrial_45 : decode cX7_drawOnTrial 45 = .ok (.lstore_n 3, 1) := by decide +kernel
theorem dX7_drawOnTrial_46 : decode cX7_drawOnTrial 46 = .ok (.aload_n 0, 1) := by decide +kernel
theorem dX7_drawOnTrial_47 : decode cX7_drawOnTrial 47 = .ok (.getfield 37, 3) := by decide +kernel
theorem dX7_drawOnTrial_50 : decode cX7_drawOnTrial 50 = .ok (.getfield 153, 3) := by decide +kernel
theorem dX7_drawOnTrial_53 : decode cX7_drawOnTrial 53 = .ok (.lload_n 3, 1) := by decide +kernel
theorem dX7_drawOnTrial_54 : decode cX7_drawOnTrial 54 = .ok (.aload_n 0, 1) := by decide +kernel
theorem dX7_drawOnTrial_55 : decode cX7_drawOnTrial 55 = .ok (.getfield 37, 3) := by decide +kernel
theorem dX7_drawOnTrial_58 : decode cX7_drawOnTrial 58 = .ok (.getfield 263, 3) := by decide +kernel
theorem dX7_drawOnTrial_61 : decode cX7_drawOnTrial 61 = .ok (.i2l, 1) := by decide +kernel
theorem dX7_drawOnTrial_62 : decode cX7_drawOnTrial 62 = .ok (.lrem, 1) := by decide +kernel
theorem dX7_drawOnTrial_63 : decode cX7_drawOnTrial 63 = .ok (.l2i, 1) := by decide +kernel
theorem dX7_drawOnTrial_64 : decode cX7_drawOnTrial 64 = .ok (.lload_n 3, 1) := by decide +kernel
theorem dX7_drawOnTrial_65 : decode cX7_drawOnTrial 65 = .ok (.ldc2_w 326, 3) := by decide +kernel
theorem dX7_drawOnTrial_68 : decode cX7_drawOnTrial 68 = .ok (.ldiv, 1) := by decide +kernel
theorem dX7_drawOnTrial_69 : decode cX7_drawOnTrial 69 = .ok (.ldc2_w 328, 3) := by decide +kernel
theorem dX7_drawOnTrial_72 : decode cX7_drawOnTrial 72 = .ok (.lrem, 1) := by decide +kernel
theorem dX7_drawOnTrial_73 : decode cX7_drawOnTrial 73 = .ok (.l2i, 1) := by decide +kernel
theorem dX7_drawOnTrial_74 : decode cX7_drawOnTrial 74 = .ok (.iastore, 1) := by decide +kernel
theorem dX7_drawOnTrial_75 : decode cX7_drawOnTrial 75 = .ok (.aload_n 0, 1) := by decide +kernel
theorem dX7_drawOnTrial_76 : decode cX7_drawOnTrial 76 = .ok (.getfield 40, 3) := by decide +kernel
theorem dX7_drawOnTrial_79 : decode cX7_drawOnTrial 79 = .ok (.aload_n 0, 1) := by decide +kernel
theorem dX7_drawOnTrial_80 : decode cX7_drawOnTrial 80 = .ok (.getfield 37, 3) := by decide +kernel
theorem dX7_drawOnTrial_83 : decode cX7_drawOnTrial 83 = .ok (.invokevirtual 279, 3) := by decide +kernel
theorem dX7_drawOnTrial_86 : decode cX7_drawOnTrial 86 = .ok (.iload 5, 2) := by decide +kernel
theorem dX7_drawOnTrial_88 : decode cX7_drawOnTrial 88 = .ok (.aload_n 0, 1) := by decide +kernel
theorem dX7_drawOnTrial_89 : decode cX7_drawOnTrial 89 = .ok (.getfield 40, 3) := by decide +kernel
theorem dX7_drawOnTrial_92 : decode cX7_drawOnTrial 92 = .ok (.getfield 238, 3) := by decide +kernel
theorem dX7_drawOnTrial_95 : decode cX7_drawOnTrial 95 = .ok (.iadd, 1) := by decide +kernel
theorem dX7_drawOnTrial_96 : decode cX7_drawOnTrial 96 = .ok (.istore 5, 2) := by decide +kernel
theorem dX7_drawOnTrial_98 : decode cX7_drawOnTrial 98 = .ok (.iinc 6 1, 3) := by decide +kernel
theorem dX7_drawOnTrial_101 : decode cX7_drawOnTrial 101 = .ok (.goto (-81), 3) := by decide +kernel
theorem dX7_drawOnTrial_104 : decode cX7_drawOnTrial 104 = .ok (.iload 5, 2) := by decide +kernel
theorem dX7_drawOnTrial_106 : decode cX7_drawOnTrial 106 = .ok (.ireturn, 1) := by decide +kernel
