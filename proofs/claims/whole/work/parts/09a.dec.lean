/-! decode rows, printed by program -/
theorem dX0_init_0 : decode cX0_init 0 = .ok (.aload_n 0, 1) := by decide +kernel
theorem dX0_init_1 : decode cX0_init 1 = .ok (.invokespecial 1, 3) := by decide +kernel
theorem dX0_init_4 : decode cX0_init 4 = .ok (.aload_n 0, 1) := by decide +kernel
theorem dX0_init_5 : decode cX0_init 5 = .ok (.iconst 0, 1) := by decide +kernel
theorem dX0_init_6 : decode cX0_init 6 = .ok (.putfield 7, 3) := by decide +kernel
theorem dX0_init_9 : decode cX0_init 9 = .ok (.aload_n 0, 1) := by decide +kernel
theorem dX0_init_10 : decode cX0_init 10 = .ok (.bipush 16, 2) := by decide +kernel
theorem dX0_init_12 : decode cX0_init 12 = .ok (.newarray .int, 2) := by decide +kernel
theorem dX0_init_14 : decode cX0_init 14 = .ok (.putfield 13, 3) := by decide +kernel
theorem dX0_init_17 : decode cX0_init 17 = .ok (.aload_n 0, 1) := by decide +kernel
theorem dX0_init_18 : decode cX0_init 18 = .ok (.bipush 16, 2) := by decide +kernel
theorem dX0_init_20 : decode cX0_init 20 = .ok (.newarray .int, 2) := by decide +kernel
theorem dX0_init_22 : decode cX0_init 22 = .ok (.putfield 17, 3) := by decide +kernel
theorem dX0_init_25 : decode cX0_init 25 = .ok (.aload_n 0, 1) := by decide +kernel
theorem dX0_init_26 : decode cX0_init 26 = .ok (.bipush 16, 2) := by decide +kernel
theorem dX0_init_28 : decode cX0_init 28 = .ok (.newarray .int, 2) := by decide +kernel
theorem dX0_init_30 : decode cX0_init 30 = .ok (.putfield 20, 3) := by decide +kernel
theorem dX0_init_33 : decode cX0_init 33 = .ok (.return_, 1) := by decide +kernel
theorem dX0_forgetAll_0 : decode cX0_forgetAll 0 = .ok (.aload_n 0, 1) := by decide +kernel
theorem dX0_forgetAll_1 : decode cX0_forgetAll 1 = .ok (.iconst 0, 1) := by decide +kernel
theorem dX0_forgetAll_2 : decode cX0_forgetAll 2 = .ok (.putfield 7, 3) := by decide +kernel
theorem dX0_forgetAll_5 : decode cX0_forgetAll 5 = .ok (.return_, 1) := by decide +kernel
theorem dX0_keep_0 : decode cX0_keep 0 = .ok (.aload_n 0, 1) := by decide +kernel
theorem dX0_keep_1 : decode cX0_keep 1 = .ok (.getfield 7, 3) := by decide +kernel
theorem dX0_keep_4 : decode cX0_keep 4 = .ok (.bipush 16, 2) := by decide +kernel
theorem dX0_keep_6 : decode cX0_keep 6 = .ok (.if_icmp .lt 7, 3) := by decide +kernel
theorem dX0_keep_9 : decode cX0_keep 9 = .ok (.aload_n 0, 1) := by decide +kernel
theorem dX0_keep_10 : decode cX0_keep 10 = .ok (.invokevirtual 23, 3) := by decide +kernel
theorem dX0_keep_13 : decode cX0_keep 13 = .ok (.aload_n 0, 1) := by decide +kernel
theorem dX0_keep_14 : decode cX0_keep 14 = .ok (.getfield 13, 3) := by decide +kernel
theorem dX0_keep_17 : decode cX0_keep 17 = .ok (.aload_n 0, 1) := by decide +kernel
theorem dX0_keep_18 : decode cX0_keep 18 = .ok (.getfield 7, 3) := by decide +kernel
theorem dX0_keep_21 : decode cX0_keep 21 = .ok (.iload_n 1, 1) := by decide +kernel
theorem dX0_keep_22 : decode cX0_keep 22 = .ok (.iastore, 1) := by decide +kernel
theorem dX0_keep_23 : decode cX0_keep 23 = .ok (.aload_n 0, 1) := by decide +kernel
theorem dX0_keep_24 : decode cX0_keep 24 = .ok (.getfield 17, 3) := by decide +kernel
theorem dX0_keep_27 : decode cX0_keep 27 = .ok (.aload_n 0, 1) := by decide +kernel
theorem dX0_keep_28 : decode cX0_keep 28 = .ok (.getfield 7, 3) := by decide +kernel
theorem dX0_keep_31 : decode cX0_keep 31 = .ok (.iload_n 2, 1) := by decide +kernel
theorem dX0_keep_32 : decode cX0_keep 32 = .ok (.iastore, 1) := by decide +kernel
theorem dX0_keep_33 : decode cX0_keep 33 = .ok (.aload_n 0, 1) := by decide +kernel
theorem dX0_keep_34 : decode cX0_keep 34 = .ok (.getfield 20, 3) := by decide +kernel
theorem dX0_keep_37 : decode cX0_keep 37 = .ok (.aload_n 0, 1) := by decide +kernel
theorem dX0_keep_38 : decode cX0_keep 38 = .ok (.getfield 7, 3) := by decide +kernel
theorem dX0_keep_41 : decode cX0_keep 41 = .ok (.iload_n 3, 1) := by decide +kernel
theorem dX0_keep_42 : decode cX0_keep 42 = .ok (.iastore, 1) := by decide +kernel
theorem dX0_keep_43 : decode cX0_keep 43 = .ok (.aload_n 0, 1) := by decide +kernel
theorem dX0_keep_44 : decode cX0_keep 44 = .ok (.dup, 1) := by decide +kernel
theorem dX0_keep_45 : decode cX0_keep 45 = .ok (.getfield 7, 3) := by decide +kernel
theorem dX0_keep_48 : decode cX0_keep 48 = .ok (.iconst 1, 1) := by decide +kernel
theorem dX0_keep_49 : decode cX0_keep 49 = .ok (.iadd, 1) := by decide +kernel
theorem dX0_keep_50 : decode cX0_keep 50 = .ok (.putfield 7, 3) := by decide +kernel
theorem dX0_keep_53 : decode cX0_keep 53 = .ok (.return_, 1) := by decide +kernel
theorem dX0_forgetOldest_0 : decode cX0_forgetOldest 0 = .ok (.aload_n 0, 1) := by decide +kernel
theorem dX0_forgetOldest_1 : decode cX0_forgetOldest 1 = .ok (.getfield 13, 3) := by decide +kernel
theorem dX0_forgetOldest_4 : decode cX0_forgetOldest 4 = .ok (.iconst 1, 1) := by decide +kernel
theorem dX0_forgetOldest_5 : decode cX0_forgetOldest 5 = .ok (.aload_n 0, 1) := by decide +kernel
theorem dX0_forgetOldest_6 : decode cX0_forgetOldest 6 = .ok (.getfield 13, 3) := by decide +kernel
theorem dX0_forgetOldest_9 : decode cX0_forgetOldest 9 = .ok (.iconst 0, 1) := by decide +kernel
theorem dX0_forgetOldest_10 : decode cX0_forgetOldest 10 = .ok (.bipush 15, 2) := by decide +kernel
theorem dX0_forgetOldest_12 : decode cX0_forgetOldest 12 = .ok (.invokestatic 26, 3) := by decide +kernel
theorem dX0_forgetOldest_15 : decode cX0_forgetOldest 15 = .ok (.aload_n 0, 1) := by decide +kernel
theorem dX0_forgetOldest_16 : decode cX0_forgetOldest 16 = .ok (.getfield 17, 3) := by decide +kernel
theorem dX0_forgetOldest_19 : decode cX0_forgetOldest 19 = .ok (.iconst 1, 1) := by decide +kernel
theorem dX0_forgetOldest_20 : decode cX0_forgetOldest 20 = .ok (.aload_n 0, 1) := by decide +kernel
theorem dX0_forgetOldest_21 : decode cX0_forgetOldest 21 = .ok (.getfield 17, 3) := by decide +kernel
theorem dX0_forgetOldest_24 : decode cX0_forgetOldest 24 = .ok (.iconst 0, 1) := by decide +kernel
theorem dX0_forgetOldest_25 : decode cX0_forgetOldest 25 = .ok (.bipush 15, 2) := by decide +kernel
theorem dX0_forgetOldest_27 : decode cX0_forgetOldest 27 = .ok (.invokestatic 26, 3) := by decide +kernel
theorem dX0_forgetOldest_30 : decode cX0_forgetOldest 30 = .ok (.aload_n 0, 1) := by decide +kernel
theorem dX0_forgetOldest_31 : decode cX0_forgetOldest 31 = .ok (.getfield 20, 3) := by decide +kernel
theorem dX0_forgetOldest_34 : decode cX0_forgetOldest 34 = .ok (.iconst 1, 1) := by decide +kernel
theorem dX0_forgetOldest_35 : decode cX0_forgetOldest 35 = .ok (.aload_n 0, 1) := by decide +kernel
theorem dX0_forgetOldest_36 : decode cX0_forgetOldest 36 = .ok (.getfield 20, 3) := by decide +kernel
theorem dX0_forgetOldest_39 : decode cX0_forgetOldest 39 = .ok (.iconst 0, 1) := by decide +kernel
theorem dX0_forgetOldest_40 : decode cX0_forgetOldest 40 = .ok (.bipush 15, 2) := by decide +kernel
theorem dX0_forgetOldest_42 : decode cX0_forgetOldest 42 = .ok (.invokestatic 26, 3) := by decide +kernel
theorem dX0_forgetOldest_45 : decode cX0_forgetOldest 45 = .ok (.aload_n 0, 1) := by decide +kernel
theorem dX0_forgetOldest_46 : decode cX0_forgetOldest 46 = .ok (.bipush 15, 2) := by decide +kernel
theorem dX0_forgetOldest_48 : decode cX0_forgetOldest 48 = .ok (.putfield 7, 3) := by decide +kernel
theorem dX0_forgetOldest_51 : decode cX0_forgetOldest 51 = .ok (.return_, 1) := by decide +kernel
theorem dX0_takeBack_0 : decode cX0_takeBack 0 = .ok (.aload_n 0, 1) := by decide +kernel
theorem dX0_takeBack_1 : decode cX0_takeBack 1 = .ok (.getfield 7, 3) := by decide +kernel
theorem dX0_takeBack_4 : decode cX0_takeBack 4 = .ok (.ifCond .gt 4, 3) := by decide +kernel
theorem dX0_takeBack_7 : decode cX0_takeBack 7 = .ok (.return_, 1) := by decide +kernel
theorem dX0_takeBack_8 : decode cX0_takeBack 8 = .ok (.aload_n 0, 1) := by decide +kernel
theorem dX0_takeBack_9 : decode cX0_takeBack 9 = .ok (.dup, 1) := by decide +kernel
theorem dX0_takeBack_10 : decode cX0_takeBack 10 = .ok (.getfield 7, 3) := by decide +kernel
theorem dX0_takeBack_13 : decode cX0_takeBack 13 = .ok (.iconst 1, 1) := by decide +kernel
theorem dX0_takeBack_14 : decode cX0_takeBack 14 = .ok (.isub, 1) := by decide +kernel
theorem dX0_takeBack_15 : decode cX0_takeBack 15 = .ok (.putfield 7, 3) := by decide +kernel
theorem dX0_takeBack_18 : decode cX0_takeBack 18 = .ok (.aload_n 0, 1) := by decide +kernel
theorem dX0_takeBack_19 : decode cX0_takeBack 19 = .ok (.getfield 17, 3) := by decide +kernel
theorem dX0_takeBack_22 : decode cX0_takeBack 22 = .ok (.aload_n 0, 1) := by decide +kernel
theorem dX0_takeBack_23 : decode cX0_takeBack 23 = .ok (.getfield 7, 3) := by decide +kernel
theorem dX0_takeBack_26 : decode cX0_takeBack 26 = .ok (.iaload, 1) := by decide +kernel
theorem dX0_takeBack_27 : decode cX0_takeBack 27 = .ok (.istore_n 2, 1) := by decide +kernel
theorem dX0_takeBack_28 : decode cX0_takeBack 28 = .ok (.aload_n 0, 1) := by decide +kernel
theorem dX0_takeBack_29 : decode cX0_takeBack 29 = .ok (.getfield 20, 3) := by decide +kernel
theorem dX0_takeBack_32 : decode cX0_takeBack 32 = .ok (.aload_n 0, 1) := by decide +kernel
theorem dX0_takeBack_33 : decode cX0_takeBack 33 = .ok (.getfield 7, 3) := by decide +kernel
theorem dX0_takeBack_36 : decode cX0_takeBack 36 = .ok (.iaload, 1) := by decide +kernel
theorem dX0_takeBack_37 : decode cX0_takeBack 37 = .ok (.istore_n 3, 1) := by decide +kernel
theorem dX0_takeBack_38 : decode cX0_takeBack 38 = .ok (.aload_n 0, 1) := by decide +kernel
theorem dX0_takeBack_39 : decode cX0_takeBack 39 = .ok (.getfield 13, 3) := by decide +kernel
theorem dX0_takeBack_42 : decode cX0_takeBack 42 = .ok (.aload_n 0, 1) := by decide +kernel
theorem dX0_takeBack_43 : decode cX0_takeBack 43 = .ok (.getfield 7, 3) := by decide +kernel
theorem dX0_takeBack_46 : decode cX0_takeBack 46 = .ok (.iaload, 1) := by decide +kernel
theorem dX0_takeBack_47 : decode cX0_takeBack 47 = .ok (.tableswitch 53 0 2 #[25, 35, 45], 25) := by decide +kernel
theorem dX0_takeBack_72 : decode cX0_takeBack 72 = .ok (.aload_n 1, 1) := by decide +kernel
theorem dX0_takeBack_73 : decode cX0_takeBack 73 = .ok (.getfield 32, 3) := by decide +kernel
theorem dX0_takeBack_76 : decode cX0_takeBack 76 = .ok (.iload_n 2, 1) := by decide +kernel
theorem dX0_takeBack_77 : decode cX0_takeBack 77 = .ok (.iload_n 3, 1) := by decide +kernel
theorem dX0_takeBack_78 : decode cX0_takeBack 78 = .ok (.iastore, 1) := by decide +kernel
theorem dX0_takeBack_79 : decode cX0_takeBack 79 = .ok (.goto 27, 3) := by decide +kernel
theorem dX0_takeBack_82 : decode cX0_takeBack 82 = .ok (.aload_n 1, 1) := by decide +kernel
theorem dX0_takeBack_83 : decode cX0_takeBack 83 = .ok (.getfield 37, 3) := by decide +kernel
theorem dX0_takeBack_86 : decode cX0_takeBack 86 = .ok (.iload_n 2, 1) := by decide +kernel
theorem dX0_takeBack_87 : decode cX0_takeBack 87 = .ok (.iload_n 3, 1) := by decide +kernel
theorem dX0_takeBack_88 : decode cX0_takeBack 88 = .ok (.iastore, 1) := by decide +kernel
theorem dX0_takeBack_89 : decode cX0_takeBack 89 = .ok (.goto 17, 3) := by decide +kernel
theorem dX0_takeBack_92 : decode cX0_takeBack 92 = .ok (.aload_n 1, 1) := by decide +kernel
theorem dX0_takeBack_93 : decode cX0_takeBack 93 = .ok (.iload_n 3, 1) := by decide +kernel
theorem dX0_takeBack_94 : decode cX0_takeBack 94 = .ok (.putfield 40, 3) := by decide +kernel
theorem dX0_takeBack_97 : decode cX0_takeBack 97 = .ok (.goto 9, 3) := by decide +kernel
theorem dX0_takeBack_100 : decode cX0_takeBack 100 = .ok (.aload_n 1, 1) := by decide +kernel
theorem dX0_takeBack_101 : decode cX0_takeBack 101 = .ok (.iload_n 3, 1) := by decide +kernel
theorem dX0_takeBack_102 : decode cX0_takeBack 102 = .ok (.ineg, 1) := by decide +kernel
theorem dX0_takeBack_103 : decode cX0_takeBack 103 = .ok (.invokevirtual 43, 3) := by decide +kernel
theorem dX0_takeBack_106 : decode cX0_takeBack 106 = .ok (.return_, 1) := by decide +kernel
theorem dX1_init_0 : decode cX1_init 0 = .ok (.aload_n 0, 1) := by decide +kernel
theorem dX1_init_1 : decode cX1_init 1 = .ok (.invokespecial 1, 3) := by decide +kernel
theorem dX1_init_4 : decode cX1_init 4 = .ok (.aload_n 0, 1) := by decide +kernel
theorem dX1_init_5 : decode cX1_init 5 = .ok (.iconst 0, 1) := by decide +kernel
theorem dX1_init_6 : decode cX1_init 6 = .ok (.putfield 7, 3) := by decide +kernel
theorem dX1_init_9 : decode cX1_init 9 = .ok (.aload_n 0, 1) := by decide +kernel
theorem dX1_init_10 : decode cX1_init 10 = .ok (.bipush 16, 2) := by decide +kernel
theorem dX1_init_12 : decode cX1_init 12 = .ok (.newarray .int, 2) := by decide +kernel
theorem dX1_init_14 : decode cX1_init 14 = .ok (.putfield 13, 3) := by decide +kernel
theorem dX1_init_17 : decode cX1_init 17 = .ok (.aload_n 0, 1) := by decide +kernel
theorem dX1_init_18 : decode cX1_init 18 = .ok (.iconst 0, 1) := by decide +kernel
theorem dX1_init_19 : decode cX1_init 19 = .ok (.putfield 17, 3) := by decide +kernel
theorem dX1_init_22 : decode cX1_init 22 = .ok (.aload_n 0, 1) := by decide +kernel
theorem dX1_init_23 : decode cX1_init 23 = .ok (.iconst 0, 1) := by decide +kernel
theorem dX1_init_24 : decode cX1_init 24 = .ok (.putfield 20, 3) := by decide +kernel
theorem dX1_init_27 : decode cX1_init 27 = .ok (.aload_n 0, 1) := by decide +kernel
theorem dX1_init_28 : decode cX1_init 28 = .ok (.iconst 0, 1) := by decide +kernel
theorem dX1_init_29 : decode cX1_init 29 = .ok (.putfield 23, 3) := by decide +kernel
theorem dX1_init_32 : decode cX1_init 32 = .ok (.aload_n 0, 1) := by decide +kernel
theorem dX1_init_33 : decode cX1_init 33 = .ok (.iconst 0, 1) := by decide +kernel
theorem dX1_init_34 : decode cX1_init 34 = .ok (.putfield 26, 3) := by decide +kernel
theorem dX1_init_37 : decode cX1_init 37 = .ok (.return_, 1) := by decide +kernel
theorem dX1_isOne_0 : decode cX1_isOne 0 = .ok (.iload_n 1, 1) := by decide +kernel
theorem dX1_isOne_1 : decode cX1_isOne 1 = .ok (.ifCond .eq 17, 3) := by decide +kernel
theorem dX1_isOne_4 : decode cX1_isOne 4 = .ok (.iload_n 1, 1) := by decide +kernel
theorem dX1_isOne_5 : decode cX1_isOne 5 = .ok (.iload_n 0, 1) := by decide +kernel
theorem dX1_isOne_6 : decode cX1_isOne 6 = .ok (.if_icmp .eq 12, 3) := by decide +kernel
theorem dX1_isOne_9 : decode cX1_isOne 9 = .ok (.iload_n 1, 1) := by decide +kernel
theorem dX1_isOne_10 : decode cX1_isOne 10 = .ok (.getstatic 29, 3) := by decide +kernel
theorem dX1_isOne_13 : decode cX1_isOne 13 = .ok (.iload_n 0, 1) := by decide +kernel
theorem dX1_isOne_14 : decode cX1_isOne 14 = .ok (.iaload, 1) := by decide +kernel
theorem dX1_isOne_15 : decode cX1_isOne 15 = .ok (.if_icmp .ne 7, 3) := by decide +kernel
theorem dX1_isOne_18 : decode cX1_isOne 18 = .ok (.iconst 1, 1) := by decide +kernel
theorem dX1_isOne_19 : decode cX1_isOne 19 = .ok (.goto 4, 3) := by decide +kernel
theorem dX1_isOne_22 : decode cX1_isOne 22 = .ok (.iconst 0, 1) := by decide +kernel
theorem dX1_isOne_23 : decode cX1_isOne 23 = .ok (.ireturn, 1) := by decide +kernel
theorem dX1_begin_0 : decode cX1_begin 0 = .ok (.aload_n 0, 1) := by decide +kernel
theorem dX1_begin_1 : decode cX1_begin 1 = .ok (.iload_n 2, 1) := by decide +kernel
theorem dX1_begin_2 : decode cX1_begin 2 = .ok (.putfield 17, 3) := by decide +kernel
theorem dX1_begin_5 : decode cX1_begin 5 = .ok (.aload_n 0, 1) := by decide +kernel
theorem dX1_begin_6 : decode cX1_begin 6 = .ok (.iload_n 3, 1) := by decide +kernel
theorem dX1_begin_7 : decode cX1_begin 7 = .ok (.putfield 20, 3) := by decide +kernel
theorem dX1_begin_10 : decode cX1_begin 10 = .ok (.aload_n 0, 1) := by decide +kernel
theorem dX1_begin_11 : decode cX1_begin 11 = .ok (.iload 4, 2) := by decide +kernel
theorem dX1_begin_13 : decode cX1_begin 13 = .ok (.putfield 23, 3) := by decide +kernel
theorem dX1_begin_16 : decode cX1_begin 16 = .ok (.aload_n 0, 1) := by decide +kernel
theorem dX1_begin_17 : decode cX1_begin 17 = .ok (.iload 5, 2) := by decide +kernel
theorem dX1_begin_19 : decode cX1_begin 19 = .ok (.putfield 26, 3) := by decide +kernel
theorem dX1_begin_22 : decode cX1_begin 22 = .ok (.aload_n 0, 1) := by decide +kernel
theorem dX1_begin_23 : decode cX1_begin 23 = .ok (.iconst 0, 1) := by decide +kernel
theorem dX1_begin_24 : decode cX1_begin 24 = .ok (.putfield 7, 3) := by decide +kernel
theorem dX1_begin_27 : decode cX1_begin 27 = .ok (.aload_n 0, 1) := by decide +kernel
theorem dX1_begin_28 : decode cX1_begin 28 = .ok (.iload_n 1, 1) := by decide +kernel
theorem dX1_begin_29 : decode cX1_begin 29 = .ok (.ifCond .ne 11, 3) := by decide +kernel
theorem dX1_begin_32 : decode cX1_begin 32 = .ok (.getstatic 32, 3) := by decide +kernel
theorem dX1_begin_35 : decode cX1_begin 35 = .ok (.iload_n 2, 1) := by decide +kernel
theorem dX1_begin_36 : decode cX1_begin 36 = .ok (.iaload, 1) := by decide +kernel
theorem dX1_begin_37 : decode cX1_begin 37 = .ok (.goto 8, 3) := by decide +kernel
theorem dX1_begin_40 : decode cX1_begin 40 = .ok (.getstatic 35, 3) := by decide +kernel
theorem dX1_begin_43 : decode cX1_begin 43 = .ok (.iload_n 2, 1) := by decide +kernel
theorem dX1_begin_44 : decode cX1_begin 44 = .ok (.iaload, 1) := by decide +kernel
theorem dX1_begin_45 : decode cX1_begin 45 = .ok (.iconst 0, 1) := by decide +kernel
theorem dX1_begin_46 : decode cX1_begin 46 = .ok (.invokevirtual 38, 3) := by decide +kernel
theorem dX1_begin_49 : decode cX1_begin 49 = .ok (.ireturn, 1) := by decide +kernel
theorem dX1_run_0 : decode cX1_run 0 = .ok (.iload_n 2, 1) := by decide +kernel
theorem dX1_run_1 : decode cX1_run 1 = .ok (.bipush 8, 2) := by decide +kernel
theorem dX1_run_3 : decode cX1_run 3 = .ok (.if_icmp .le 5, 3) := by decide +kernel
theorem dX1_run_6 : decode cX1_run 6 = .ok (.iconst 0, 1) := by decide +kernel
theorem dX1_run_7 : decode cX1_run 7 = .ok (.ireturn, 1) := by decide +kernel
theorem dX1_run_8 : decode cX1_run 8 = .ok (.aload_n 0, 1) := by decide +kernel
theorem dX1_run_9 : decode cX1_run 9 = .ok (.iload_n 1, 1) := by decide +kernel
theorem dX1_run_10 : decode cX1_run 10 = .ok (.invokevirtual 42, 3) := by decide +kernel
theorem dX1_run_13 : decode cX1_run 13 = .ok (.iload_n 2, 1) := by decide +kernel
theorem dX1_run_14 : decode cX1_run 14 = .ok (.iconst 1, 1) := by decide +kernel
theorem dX1_run_15 : decode cX1_run 15 = .ok (.iadd, 1) := by decide +kernel
theorem dX1_run_16 : decode cX1_run 16 = .ok (.istore_n 3, 1) := by decide +kernel
theorem dX1_run_17 : decode cX1_run 17 = .ok (.iload_n 1, 1) := by decide +kernel
theorem dX1_run_18 : decode cX1_run 18 = .ok (.tableswitch 179 10 23 #[70, 75, 97, 106, 117, 179, 179, 179, 179, 179, 127, 132, 145, 157], 70) := by decide +kernel
theorem dX1_run_88 : decode cX1_run 88 = .ok (.aload_n 0, 1) := by decide +kernel
theorem dX1_run_89 : decode cX1_run 89 = .ok (.getfield 23, 3) := by decide +kernel
theorem dX1_run_92 : decode cX1_run 92 = .ok (.ireturn, 1) := by decide +kernel
theorem dX1_run_93 : decode cX1_run 93 = .ok (.aload_n 0, 1) := by decide +kernel
theorem dX1_run_94 : decode cX1_run 94 = .ok (.bipush 10, 2) := by decide +kernel
theorem dX1_run_96 : decode cX1_run 96 = .ok (.iload_n 3, 1) := by decide +kernel
theorem dX1_run_97 : decode cX1_run 97 = .ok (.invokevirtual 38, 3) := by decide +kernel
theorem dX1_run_100 : decode cX1_run 100 = .ok (.aload_n 0, 1) := by decide +kernel
theorem dX1_run_101 : decode cX1_run 101 = .ok (.getstatic 35, 3) := by decide +kernel
theorem dX1_run_104 : decode cX1_run 104 = .ok (.aload_n 0, 1) := by decide +kernel
theorem dX1_run_105 : decode cX1_run 105 = .ok (.getfield 17, 3) := by decide +kernel
theorem dX1_run_108 : decode cX1_run 108 = .ok (.iaload, 1) := by decide +kernel
theorem dX1_run_109 : decode cX1_run 109 = .ok (.iload_n 3, 1) := by decide +kernel
theorem dX1_run_110 : decode cX1_run 110 = .ok (.invokevirtual 38, 3) := by decide +kernel
theorem dX1_run_113 : decode cX1_run 113 = .ok (.iadd, 1) := by decide +kernel
theorem dX1_run_114 : decode cX1_run 114 = .ok (.ireturn, 1) := by decide +kernel
theorem dX1_run_115 : decode cX1_run 115 = .ok (.aload_n 0, 1) := by decide +kernel
theorem dX1_run_116 : decode cX1_run 116 = .ok (.bipush 11, 2) := by decide +kernel
theorem dX1_run_118 : decode cX1_run 118 = .ok (.iload_n 3, 1) := by decide +kernel
theorem dX1_run_119 : decode cX1_run 119 = .ok (.invokevirtual 38, 3) := by decide +kernel
theorem dX1_run_122 : decode cX1_run 122 = .ok (.ineg, 1) := by decide +kernel
theorem dX1_run_123 : decode cX1_run 123 = .ok (.ireturn, 1) := by decide +kernel
theorem dX1_run_124 : decode cX1_run 124 = .ok (.aload_n 0, 1) := by decide +kernel
theorem dX1_run_125 : decode cX1_run 125 = .ok (.bipush 10, 2) := by decide +kernel
theorem dX1_run_127 : decode cX1_run 127 = .ok (.iload_n 3, 1) := by decide +kernel
theorem dX1_run_128 : decode cX1_run 128 = .ok (.invokevirtual 38, 3) := by decide +kernel
theorem dX1_run_131 : decode cX1_run 131 = .ok (.bipush 100, 2) := by decide +kernel
theorem dX1_run_133 : decode cX1_run 133 = .ok (.isub, 1) := by decide +kernel
theorem dX1_run_134 : decode cX1_run 134 = .ok (.ireturn, 1) := by decide +kernel
theorem dX1_run_135 : decode cX1_run 135 = .ok (.iconst 2, 1) := by decide +kernel
theorem dX1_run_136 : decode cX1_run 136 = .ok (.aload_n 0, 1) := by decide +kernel
theorem dX1_run_137 : decode cX1_run 137 = .ok (.bipush 13, 2) := by decide +kernel
theorem dX1_run_139 : decode cX1_run 139 = .ok (.iload_n 3, 1) := by decide +kernel
theorem dX1_run_140 : decode cX1_run 140 = .ok (.invokevirtual 38, 3) := by decide +kernel
theorem dX1_run_143 : decode cX1_run 143 = .ok (.imul, 1) := by decide +kernel
theorem dX1_run_144 : decode cX1_run 144 = .ok (.ireturn, 1) := by decide +kernel
theorem dX1_run_145 : decode cX1_run 145 = .ok (.aload_n 0, 1) := by decide +kernel
theorem dX1_run_146 : decode cX1_run 146 = .ok (.getfield 20, 3) := by decide +kernel
theorem dX1_run_149 : decode cX1_run 149 = .ok (.ireturn, 1) := by decide +kernel
theorem dX1_run_150 : decode cX1_run 150 = .ok (.aload_n 0, 1) := by decide +kernel
theorem dX1_run_151 : decode cX1_run 151 = .ok (.bipush 20, 2) := by decide +kernel
theorem dX1_run_153 : decode cX1_run 153 = .ok (.iload_n 3, 1) := by decide +kernel
theorem dX1_run_154 : decode cX1_run 154 = .ok (.invokevirtual 38, 3) := by decide +kernel
theorem dX1_run_157 : decode cX1_run 157 = .ok (.aload_n 0, 1) := by decide +kernel
theorem dX1_run_158 : decode cX1_run 158 = .ok (.getfield 26, 3) := by decide +kernel
theorem dX1_run_161 : decode cX1_run 161 = .ok (.iadd, 1) := by decide +kernel
theorem dX1_run_162 : decode cX1_run 162 = .ok (.ireturn, 1) := by decide +kernel
theorem dX1_run_163 : decode cX1_run 163 = .ok (.aload_n 0, 1) := by decide +kernel
theorem dX1_run_164 : decode cX1_run 164 = .ok (.bipush 21, 2) := by decide +kernel
theorem dX1_run_166 : decode cX1_run 166 = .ok (.iload_n 3, 1) := by decide +kernel
theorem dX1_run_167 : decode cX1_run 167 = .ok (.invokevirtual 38, 3) := by decide +kernel
theorem dX1_run_170 : decode cX1_run 170 = .ok (.sipush 1000, 3) := by decide +kernel
theorem dX1_run_173 : decode cX1_run 173 = .ok (.isub, 1) := by decide +kernel
theorem dX1_run_174 : decode cX1_run 174 = .ok (.ireturn, 1) := by decide +kernel
theorem dX1_run_175 : decode cX1_run 175 = .ok (.aload_n 0, 1) := by decide +kernel
theorem dX1_run_176 : decode cX1_run 176 = .ok (.bipush 20, 2) := by decide +kernel
theorem dX1_run_178 : decode cX1_run 178 = .ok (.iload_n 3, 1) := by decide +kernel
theorem dX1_run_179 : decode cX1_run 179 = .ok (.invokevirtual 38, 3) := by decide +kernel
theorem dX1_run_182 : decode cX1_run 182 = .ok (.aload_n 0, 1) := by decide +kernel
theorem dX1_run_183 : decode cX1_run 183 = .ok (.getstatic 32, 3) := by decide +kernel
theorem dX1_run_186 : decode cX1_run 186 = .ok (.aload_n 0, 1) := by decide +kernel
theorem dX1_run_187 : decode cX1_run 187 = .ok (.getfield 17, 3) := by decide +kernel
theorem dX1_run_190 : decode cX1_run 190 = .ok (.iaload, 1) := by decide +kernel
theorem dX1_run_191 : decode cX1_run 191 = .ok (.iload_n 3, 1) := by decide +kernel
theorem dX1_run_192 : decode cX1_run 192 = .ok (.invokevirtual 38, 3) := by decide +kernel
theorem dX1_run_195 : decode cX1_run 195 = .ok (.isub, 1) := by decide +kernel
theorem dX1_run_196 : decode cX1_run 196 = .ok (.ireturn, 1) := by decide +kernel
theorem dX1_run_197 : decode cX1_run 197 = .ok (.iconst 2, 1) := by decide +kernel
theorem dX1_run_198 : decode cX1_run 198 = .ok (.aload_n 0, 1) := by decide +kernel
theorem dX1_run_199 : decode cX1_run 199 = .ok (.bipush 21, 2) := by decide +kernel
theorem dX1_run_201 : decode cX1_run 201 = .ok (.iload_n 3, 1) := by decide +kernel
theorem dX1_run_202 : decode cX1_run 202 = .ok (.invokevirtual 38, 3) := by decide +kernel
theorem dX1_run_205 : decode cX1_run 205 = .ok (.imul, 1) := by decide +kernel
theorem dX1_run_206 : decode cX1_run 206 = .ok (.ireturn, 1) := by decide +kernel
theorem dX1_leave_0 : decode cX1_leave 0 = .ok (.aload_n 0, 1) := by decide +kernel
theorem dX1_leave_1 : decode cX1_leave 1 = .ok (.getfield 7, 3) := by decide +kernel
theorem dX1_leave_4 : decode cX1_leave 4 = .ok (.bipush 16, 2) := by decide +kernel
theorem dX1_leave_6 : decode cX1_leave 6 = .ok (.if_icmp .ge 23, 3) := by decide +kernel
theorem dX1_leave_9 : decode cX1_leave 9 = .ok (.aload_n 0, 1) := by decide +kernel
theorem dX1_leave_10 : decode cX1_leave 10 = .ok (.getfield 13, 3) := by decide +kernel
theorem dX1_leave_13 : decode cX1_leave 13 = .ok (.aload_n 0, 1) := by decide +kernel
theorem dX1_leave_14 : decode cX1_leave 14 = .ok (.getfield 7, 3) := by decide +kernel
theorem dX1_leave_17 : decode cX1_leave 17 = .ok (.iload_n 1, 1) := by decide +kernel
theorem dX1_leave_18 : decode cX1_leave 18 = .ok (.iastore, 1) := by decide +kernel
theorem dX1_leave_19 : decode cX1_leave 19 = .ok (.aload_n 0, 1) := by decide +kernel
theorem dX1_leave_20 : decode cX1_leave 20 = .ok (.dup, 1) := by decide +kernel
theorem dX1_leave_21 : decode cX1_leave 21 = .ok (.getfield 7, 3) := by decide +kernel
theorem dX1_leave_24 : decode cX1_leave 24 = .ok (.iconst 1, 1) := by decide +kernel
theorem dX1_leave_25 : decode cX1_leave 25 = .ok (.iadd, 1) := by decide +kernel
theorem dX1_leave_26 : decode cX1_leave 26 = .ok (.putfield 7, 3) := by decide +kernel
theorem dX1_leave_29 : decode cX1_leave 29 = .ok (.return_, 1) := by decide +kernel
theorem dX2_init_0 : decode cX2_init 0 = .ok (.aload_n 0, 1) := by decide +kernel
theorem dX2_init_1 : decode cX2_init 1 = .ok (.invokespecial 3, 3) := by decide +kernel
theorem dX2_init_4 : decode cX2_init 4 = .ok (.aload_n 0, 1) := by decide +kernel
theorem dX2_init_5 : decode cX2_init 5 = .ok (.iconst 0, 1) := by decide +kernel
theorem dX2_init_6 : decode cX2_init 6 = .ok (.putfield 9, 3) := by decide +kernel
theorem dX2_init_9 : decode cX2_init 9 = .ok (.aload_n 0, 1) := by decide +kernel
theorem dX2_init_10 : decode cX2_init 10 = .ok (.iconst 0, 1) := by decide +kernel
theorem dX2_init_11 : decode cX2_init 11 = .ok (.putfield 15, 3) := by decide +kernel
theorem dX2_init_14 : decode cX2_init 14 = .ok (.aload_n 0, 1) := by decide +kernel
theorem dX2_init_15 : decode cX2_init 15 = .ok (.iconst 0, 1) := by decide +kernel
theorem dX2_init_16 : decode cX2_init 16 = .ok (.putfield 18, 3) := by decide +kernel
theorem dX2_init_19 : decode cX2_init 19 = .ok (.aload_n 0, 1) := by decide +kernel
theorem dX2_init_20 : decode cX2_init 20 = .ok (.bipush 10, 2) := by decide +kernel
theorem dX2_init_22 : decode cX2_init 22 = .ok (.newarray .int, 2) := by decide +kernel
theorem dX2_init_24 : decode cX2_init 24 = .ok (.putfield 21, 3) := by decide +kernel
theorem dX2_init_27 : decode cX2_init 27 = .ok (.aload_n 0, 1) := by decide +kernel
theorem dX2_init_28 : decode cX2_init 28 = .ok (.bipush 40, 2) := by decide +kernel
theorem dX2_init_30 : decode cX2_init 30 = .ok (.newarray .int, 2) := by decide +kernel
theorem dX2_init_32 : decode cX2_init 32 = .ok (.putfield 25, 3) := by decide +kernel
theorem dX2_init_35 : decode cX2_init 35 = .ok (.aload_n 0, 1) := by decide +kernel
theorem dX2_init_36 : decode cX2_init 36 = .ok (.bipush 40, 2) := by decide +kernel
theorem dX2_init_38 : decode cX2_init 38 = .ok (.newarray .int, 2) := by decide +kernel
theorem dX2_init_40 : decode cX2_init 40 = .ok (.putfield 28, 3) := by decide +kernel
theorem dX2_init_43 : decode cX2_init 43 = .ok (.aload_n 0, 1) := by decide +kernel
theorem dX2_init_44 : decode cX2_init 44 = .ok (.sipush 240, 3) := by decide +kernel
theorem dX2_init_47 : decode cX2_init 47 = .ok (.newarray .int, 2) := by decide +kernel
theorem dX2_init_49 : decode cX2_init 49 = .ok (.putfield 31, 3) := by decide +kernel
theorem dX2_init_52 : decode cX2_init 52 = .ok (.aload_n 0, 1) := by decide +kernel
theorem dX2_init_53 : decode cX2_init 53 = .ok (.sipush 240, 3) := by decide +kernel
theorem dX2_init_56 : decode cX2_init 56 = .ok (.newarray .long, 2) := by decide +kernel
theorem dX2_init_58 : decode cX2_init 58 = .ok (.putfield 34, 3) := by decide +kernel
theorem dX2_init_61 : decode cX2_init 61 = .ok (.aload_n 0, 1) := by decide +kernel
theorem dX2_init_62 : decode cX2_init 62 = .ok (.sipush 240, 3) := by decide +kernel
theorem dX2_init_65 : decode cX2_init 65 = .ok (.newarray .int, 2) := by decide +kernel
theorem dX2_init_67 : decode cX2_init 67 = .ok (.putfield 38, 3) := by decide +kernel
theorem dX2_init_70 : decode cX2_init 70 = .ok (.aload_n 0, 1) := by decide +kernel
theorem dX2_init_71 : decode cX2_init 71 = .ok (.bipush 7, 2) := by decide +kernel
theorem dX2_init_73 : decode cX2_init 73 = .ok (.newarray .int, 2) := by decide +kernel
theorem dX2_init_75 : decode cX2_init 75 = .ok (.putfield 41, 3) := by decide +kernel
theorem dX2_init_78 : decode cX2_init 78 = .ok (.return_, 1) := by decide +kernel
theorem dX2_solve_0 : decode cX2_solve 0 = .ok (.aload_n 1, 1) := by decide +kernel
theorem dX2_solve_1 : decode cX2_solve 1 = .ok (.getfield 44, 3) := by decide +kernel
theorem dX2_solve_4 : decode cX2_solve 4 = .ok (.iconst 1, 1) := by decide +kernel
theorem dX2_solve_5 : decode cX2_solve 5 = .ok (.isub, 1) := by decide +kernel
theorem dX2_solve_6 : decode cX2_solve 6 = .ok (.istore_n 2, 1) := by decide +kernel
theorem dX2_solve_7 : decode cX2_solve 7 = .ok (.iload_n 2, 1) := by decide +kernel
theorem dX2_solve_8 : decode cX2_solve 8 = .ok (.ifCond .lt 57, 3) := by decide +kernel
theorem dX2_solve_11 : decode cX2_solve 11 = .ok (.iconst 0, 1) := by decide +kernel
theorem dX2_solve_12 : decode cX2_solve 12 = .ok (.istore_n 3, 1) := by decide +kernel
theorem dX2_solve_13 : decode cX2_solve 13 = .ok (.iload_n 3, 1) := by decide +kernel
theorem dX2_solve_14 : decode cX2_solve 14 = .ok (.bipush 24, 2) := by decide +kernel
theorem dX2_solve_16 : decode cX2_solve 16 = .ok (.if_icmp .ge 43, 3) := by decide +kernel
theorem dX2_solve_19 : decode cX2_solve 19 = .ok (.iload_n 2, 1) := by decide +kernel
theorem dX2_solve_20 : decode cX2_solve 20 = .ok (.bipush 24, 2) := by decide +kernel
theorem dX2_solve_22 : decode cX2_solve 22 = .ok (.imul, 1) := by decide +kernel
theorem dX2_solve_23 : decode cX2_solve 23 = .ok (.iload_n 3, 1) := by decide +kernel
theorem dX2_solve_24 : decode cX2_solve 24 = .ok (.iadd, 1) := by decide +kernel
theorem dX2_solve_25 : decode cX2_solve 25 = .ok (.istore 4, 2) := by decide +kernel
theorem dX2_solve_27 : decode cX2_solve 27 = .ok (.aload_n 0, 1) := by decide +kernel
theorem dX2_solve_28 : decode cX2_solve 28 = .ok (.aload_n 1, 1) := by decide +kernel
theorem dX2_solve_29 : decode cX2_solve 29 = .ok (.iload_n 2, 1) := by decide +kernel
theorem dX2_solve_30 : decode cX2_solve 30 = .ok (.iload_n 3, 1) := by decide +kernel
theorem dX2_solve_31 : decode cX2_solve 31 = .ok (.invokevirtual 49, 3) := by decide +kernel
theorem dX2_solve_34 : decode cX2_solve 34 = .ok (.aload_n 0, 1) := by decide +kernel
theorem dX2_solve_35 : decode cX2_solve 35 = .ok (.getfield 31, 3) := by decide +kernel
theorem dX2_solve_38 : decode cX2_solve 38 = .ok (.iload 4, 2) := by decide +kernel
theorem dX2_solve_40 : decode cX2_solve 40 = .ok (.dup2, 1) := by decide +kernel
theorem dX2_solve_41 : decode cX2_solve 41 = .ok (.iaload, 1) := by decide +kernel
theorem dX2_solve_42 : decode cX2_solve 42 = .ok (.aload_n 1, 1) := by decide +kernel
theorem dX2_solve_43 : decode cX2_solve 43 = .ok (.iload_n 2, 1) := by decide +kernel
theorem dX2_solve_44 : decode cX2_solve 44 = .ok (.bipush (-15), 2) := by decide +kernel
theorem dX2_solve_46 : decode cX2_solve 46 = .ok (.iload_n 3, 1) := by decide +kernel
theorem dX2_solve_47 : decode cX2_solve 47 = .ok (.iadd, 1) := by decide +kernel
theorem dX2_solve_48 : decode cX2_solve 48 = .ok (.invokevirtual 53, 3) := by decide +kernel
theorem dX2_solve_51 : decode cX2_solve 51 = .ok (.iadd, 1) := by decide +kernel
theorem dX2_solve_52 : decode cX2_solve 52 = .ok (.iastore, 1) := by decide +kernel
theorem dX2_solve_53 : decode cX2_solve 53 = .ok (.iinc 3 1, 3) := by decide +kernel
theorem dX2_solve_56 : decode cX2_solve 56 = .ok (.goto (-43), 3) := by decide +kernel
theorem dX2_solve_59 : decode cX2_solve 59 = .ok (.iinc 2 (-1), 3) := by decide +kernel
theorem dX2_solve_62 : decode cX2_solve 62 = .ok (.goto (-55), 3) := by decide +kernel
theorem dX2_solve_65 : decode cX2_solve 65 = .ok (.aload_n 0, 1) := by decide +kernel
theorem dX2_solve_66 : decode cX2_solve 66 = .ok (.aload_n 1, 1) := by decide +kernel
theorem dX2_solve_67 : decode cX2_solve 67 = .ok (.getfield 44, 3) := by decide +kernel
theorem dX2_solve_70 : decode cX2_solve 70 = .ok (.invokevirtual 57, 3) := by decide +kernel
theorem dX2_solve_73 : decode cX2_solve 73 = .ok (.return_, 1) := by decide +kernel
theorem dX2_goOn_0 : decode cX2_goOn 0 = .ok (.iload_n 2, 1) := by decide +kernel
theorem dX2_goOn_1 : decode cX2_goOn 1 = .ok (.bipush 24, 2) := by decide +kernel
theorem dX2_goOn_3 : decode cX2_goOn 3 = .ok (.imul, 1) := by decide +kernel
theorem dX2_goOn_4 : decode cX2_goOn 4 = .ok (.iload_n 3, 1) := by decide +kernel
theorem dX2_goOn_5 : decode cX2_goOn 5 = .ok (.iadd, 1) := by decide +kernel
theorem dX2_goOn_6 : decode cX2_goOn 6 = .ok (.istore 4, 2) := by decide +kernel
theorem dX2_goOn_8 : decode cX2_goOn 8 = .ok (.iload_n 2, 1) := by decide +kernel
theorem dX2_goOn_9 : decode cX2_goOn 9 = .ok (.iconst 1, 1) := by decide +kernel
theorem dX2_goOn_10 : decode cX2_goOn 10 = .ok (.iadd, 1) := by decide +kernel
theorem dX2_goOn_11 : decode cX2_goOn 11 = .ok (.aload_n 1, 1) := by decide +kernel
theorem dX2_goOn_12 : decode cX2_goOn 12 = .ok (.getfield 44, 3) := by decide +kernel
theorem dX2_goOn_15 : decode cX2_goOn 15 = .ok (.if_icmp .lt 30, 3) := by decide +kernel
theorem dX2_goOn_18 : decode cX2_goOn 18 = .ok (.aload_n 0, 1) := by decide +kernel
theorem dX2_goOn_19 : decode cX2_goOn 19 = .ok (.getfield 31, 3) := by decide +kernel
theorem dX2_goOn_22 : decode cX2_goOn 22 = .ok (.iload 4, 2) := by decide +kernel
theorem dX2_goOn_24 : decode cX2_goOn 24 = .ok (.iconst 0, 1) := by decide +kernel
theorem dX2_goOn_25 : decode cX2_goOn 25 = .ok (.iastore, 1) := by decide +kernel
theorem dX2_goOn_26 : decode cX2_goOn 26 = .ok (.aload_n 0, 1) := by decide +kernel
theorem dX2_goOn_27 : decode cX2_goOn 27 = .ok (.getfield 34, 3) := by decide +kernel
theorem dX2_goOn_30 : decode cX2_goOn 30 = .ok (.iload 4, 2) := by decide +kernel
theorem dX2_goOn_32 : decode cX2_goOn 32 = .ok (.lconst 1, 1) := by decide +kernel
theorem dX2_goOn_33 : decode cX2_goOn 33 = .ok (.lastore, 1) := by decide +kernel
theorem dX2_goOn_34 : decode cX2_goOn 34 = .ok (.aload_n 0, 1) := by decide +kernel
theorem dX2_goOn_35 : decode cX2_goOn 35 = .ok (.getfield 38, 3) := by decide +kernel
theorem dX2_goOn_38 : decode cX2_goOn 38 = .ok (.iload 4, 2) := by decide +kernel
theorem dX2_goOn_40 : decode cX2_goOn 40 = .ok (.iload_n 3, 1) := by decide +kernel
theorem dX2_goOn_41 : decode cX2_goOn 41 = .ok (.iastore, 1) := by decide +kernel
theorem dX2_goOn_42 : decode cX2_goOn 42 = .ok (.goto 82, 3) := by decide +kernel
theorem dX2_goOn_45 : decode cX2_goOn 45 = .ok (.aload_n 1, 1) := by decide +kernel
theorem dX2_goOn_46 : decode cX2_goOn 46 = .ok (.iload_n 2, 1) := by decide +kernel
theorem dX2_goOn_47 : decode cX2_goOn 47 = .ok (.iconst 1, 1) := by decide +kernel
theorem dX2_goOn_48 : decode cX2_goOn 48 = .ok (.iadd, 1) := by decide +kernel
theorem dX2_goOn_49 : decode cX2_goOn 49 = .ok (.invokevirtual 61, 3) := by decide +kernel
theorem dX2_goOn_52 : decode cX2_goOn 52 = .ok (.ifCond .eq 48, 3) := by decide +kernel
theorem dX2_goOn_55 : decode cX2_goOn 55 = .ok (.aload_n 0, 1) := by decide +kernel
theorem dX2_goOn_56 : decode cX2_goOn 56 = .ok (.getfield 31, 3) := by decide +kernel
theorem dX2_goOn_59 : decode cX2_goOn 59 = .ok (.iload 4, 2) := by decide +kernel
theorem dX2_goOn_61 : decode cX2_goOn 61 = .ok (.aload_n 0, 1) := by decide +kernel
theorem dX2_goOn_62 : decode cX2_goOn 62 = .ok (.getfield 31, 3) := by decide +kernel
theorem dX2_goOn_65 : decode cX2_goOn 65 = .ok (.iload 4, 2) := by decide +kernel
theorem dX2_goOn_67 : decode cX2_goOn 67 = .ok (.bipush 24, 2) := by decide +kernel
theorem dX2_goOn_69 : decode cX2_goOn 69 = .ok (.iadd, 1) := by decide +kernel
theorem dX2_goOn_70 : decode cX2_goOn 70 = .ok (.iaload, 1) := by decide +kernel
theorem dX2_goOn_71 : decode cX2_goOn 71 = .ok (.iastore, 1) := by decide +kernel
theorem dX2_goOn_72 : decode cX2_goOn 72 = .ok (.aload_n 0, 1) := by decide +kernel
theorem dX2_goOn_73 : decode cX2_goOn 73 = .ok (.getfield 34, 3) := by decide +kernel
theorem dX2_goOn_76 : decode cX2_goOn 76 = .ok (.iload 4, 2) := by decide +kernel
theorem dX2_goOn_78 : decode cX2_goOn 78 = .ok (.aload_n 0, 1) := by decide +kernel
theorem dX2_goOn_79 : decode cX2_goOn 79 = .ok (.getfield 34, 3) := by decide +kernel
theorem dX2_goOn_82 : decode cX2_goOn 82 = .ok (.iload 4, 2) := by decide +kernel
theorem dX2_goOn_84 : decode cX2_goOn 84 = .ok (.bipush 24, 2) := by decide +kernel
theorem dX2_goOn_86 : decode cX2_goOn 86 = .ok (.iadd, 1) := by decide +kernel
theorem dX2_goOn_87 : decode cX2_goOn 87 = .ok (.laload, 1) := by decide +kernel
theorem dX2_goOn_88 : decode cX2_goOn 88 = .ok (.lastore, 1) := by decide +kernel
theorem dX2_goOn_89 : decode cX2_goOn 89 = .ok (.aload_n 0, 1) := by decide +kernel
theorem dX2_goOn_90 : decode cX2_goOn 90 = .ok (.getfield 38, 3) := by decide +kernel
theorem dX2_goOn_93 : decode cX2_goOn 93 = .ok (.iload 4, 2) := by decide +kernel
theorem dX2_goOn_95 : decode cX2_goOn 95 = .ok (.iload_n 3, 1) := by decide +kernel
theorem dX2_goOn_96 : decode cX2_goOn 96 = .ok (.iastore, 1) := by decide +kernel
theorem dX2_goOn_97 : decode cX2_goOn 97 = .ok (.goto 27, 3) := by decide +kernel
theorem dX2_goOn_100 : decode cX2_goOn 100 = .ok (.aload_n 0, 1) := by decide +kernel
theorem dX2_goOn_101 : decode cX2_goOn 101 = .ok (.iload 4, 2) := by decide +kernel
theorem dX2_goOn_103 : decode cX2_goOn 103 = .ok (.iload_n 3, 1) := by decide +kernel
theorem dX2_goOn_104 : decode cX2_goOn 104 = .ok (.aload_n 1, 1) := by decide +kernel
theorem dX2_goOn_105 : decode cX2_goOn 105 = .ok (.getfield 65, 3) := by decide +kernel
theorem dX2_goOn_108 : decode cX2_goOn 108 = .ok (.iload_n 2, 1) := by decide +kernel
theorem dX2_goOn_109 : decode cX2_goOn 109 = .ok (.iconst 1, 1) := by decide +kernel
theorem dX2_goOn_110 : decode cX2_goOn 110 = .ok (.iadd, 1) := by decide +kernel
theorem dX2_goOn_111 : decode cX2_goOn 111 = .ok (.iaload, 1) := by decide +kernel
theorem dX2_goOn_112 : decode cX2_goOn 112 = .ok (.iconst 1, 1) := by decide +kernel
theorem dX2_goOn_113 : decode cX2_goOn 113 = .ok (.if_icmp .ne 7, 3) := by decide +kernel
theorem dX2_goOn_116 : decode cX2_goOn 116 = .ok (.iconst 1, 1) := by decide +kernel
theorem dX2_goOn_117 : decode cX2_goOn 117 = .ok (.goto 4, 3) := by decide +kernel
theorem dX2_goOn_120 : decode cX2_goOn 120 = .ok (.iconst 0, 1) := by decide +kernel
theorem dX2_goOn_121 : decode cX2_goOn 121 = .ok (.invokevirtual 68, 3) := by decide +kernel
theorem dX2_goOn_124 : decode cX2_goOn 124 = .ok (.return_, 1) := by decide +kernel
theorem dX2_choose_0 : decode cX2_choose 0 = .ok (.iload_n 1, 1) := by decide +kernel
theorem dX2_choose_1 : decode cX2_choose 1 = .ok (.iload_n 2, 1) := by decide +kernel
theorem dX2_choose_2 : decode cX2_choose 2 = .ok (.isub, 1) := by decide +kernel
theorem dX2_choose_3 : decode cX2_choose 3 = .ok (.bipush 24, 2) := by decide +kernel
theorem dX2_choose_5 : decode cX2_choose 5 = .ok (.iadd, 1) := by decide +kernel
theorem dX2_choose_6 : decode cX2_choose 6 = .ok (.istore 4, 2) := by decide +kernel
theorem dX2_choose_8 : decode cX2_choose 8 = .ok (.ldc 72, 2) := by decide +kernel
theorem dX2_choose_10 : decode cX2_choose 10 = .ok (.istore 5, 2) := by decide +kernel
theorem dX2_choose_12 : decode cX2_choose 12 = .ok (.iconst 0, 1) := by decide +kernel
theorem dX2_choose_13 : decode cX2_choose 13 = .ok (.istore 6, 2) := by decide +kernel
theorem dX2_choose_15 : decode cX2_choose 15 = .ok (.lconst 0, 1) := by decide +kernel
theorem dX2_choose_16 : decode cX2_choose 16 = .ok (.lstore 7, 2) := by decide +kernel
theorem dX2_choose_18 : decode cX2_choose 18 = .ok (.iconst 0, 1) := by decide +kernel
theorem dX2_choose_19 : decode cX2_choose 19 = .ok (.istore 9, 2) := by decide +kernel
theorem dX2_choose_21 : decode cX2_choose 21 = .ok (.iload 9, 2) := by decide +kernel
theorem dX2_choose_23 : decode cX2_choose 23 = .ok (.bipush 24, 2) := by decide +kernel
theorem dX2_choose_25 : decode cX2_choose 25 = .ok (.if_icmp .ge 106, 3) := by decide +kernel
theorem dX2_choose_28 : decode cX2_choose 28 = .ok (.iload 9, 2) := by decide +kernel
theorem dX2_choose_30 : decode cX2_choose 30 = .ok (.iload_n 2, 1) := by decide +kernel
theorem dX2_choose_31 : decode cX2_choose 31 = .ok (.if_icmp .ge 10, 3) := by decide +kernel
theorem dX2_choose_34 : decode cX2_choose 34 = .ok (.iload_n 2, 1) := by decide +kernel
theorem dX2_choose_35 : decode cX2_choose 35 = .ok (.iload 9, 2) := by decide +kernel
theorem dX2_choose_37 : decode cX2_choose 37 = .ok (.isub, 1) := by decide +kernel
theorem dX2_choose_38 : decode cX2_choose 38 = .ok (.goto 7, 3) := by decide +kernel
theorem dX2_choose_41 : decode cX2_choose 41 = .ok (.iload 9, 2) := by decide +kernel
theorem dX2_choose_43 : decode cX2_choose 43 = .ok (.iload_n 2, 1) := by decide +kernel
theorem dX2_choose_44 : decode cX2_choose 44 = .ok (.isub, 1) := by decide +kernel
theorem dX2_choose_45 : decode cX2_choose 45 = .ok (.istore 10, 2) := by decide +kernel
theorem dX2_choose_47 : decode cX2_choose 47 = .ok (.aload_n 0, 1) := by decide +kernel
theorem dX2_choose_48 : decode cX2_choose 48 = .ok (.getfield 31, 3) := by decide +kernel
theorem dX2_choose_51 : decode cX2_choose 51 = .ok (.iload 4, 2) := by decide +kernel
theorem dX2_choose_53 : decode cX2_choose 53 = .ok (.iload 9, 2) := by decide +kernel
theorem dX2_choose_55 : decode cX2_choose 55 = .ok (.iadd, 1) := by decide +kernel
theorem dX2_choose_56 : decode cX2_choose 56 = .ok (.iaload, 1) := by decide +kernel
theorem dX2_choose_57 : decode cX2_choose 57 = .ok (.iload_n 3, 1) := by decide +kernel
theorem dX2_choose_58 : decode cX2_choose 58 = .ok (.ifCond .eq 10, 3) := by decide +kernel
theorem dX2_choose_61 : decode cX2_choose 61 = .ok (.iload 10, 2) := by decide +kernel
theorem dX2_choose_63 : decode cX2_choose 63 = .ok (.iconst 2, 1) := by decide +kernel
theorem dX2_choose_64 : decode cX2_choose 64 = .ok (.idiv, 1) := by decide +kernel
theorem dX2_choose_65 : decode cX2_choose 65 = .ok (.goto 5, 3) := by decide +kernel
theorem dX2_choose_68 : decode cX2_choose 68 = .ok (.iload 10, 2) := by decide +kernel
theorem dX2_choose_70 : decode cX2_choose 70 = .ok (.iadd, 1) := by decide +kernel
theorem dX2_choose_71 : decode cX2_choose 71 = .ok (.istore 11, 2) := by decide +kernel
theorem dX2_choose_73 : decode cX2_choose 73 = .ok (.iload 11, 2) := by decide +kernel
theorem dX2_choose_75 : decode cX2_choose 75 = .ok (.iload 5, 2) := by decide +kernel
theorem dX2_choose_77 : decode cX2_choose 77 = .ok (.if_icmp .ge 26, 3) := by decide +kernel
theorem dX2_choose_80 : decode cX2_choose 80 = .ok (.iload 11, 2) := by decide +kernel
theorem dX2_choose_82 : decode cX2_choose 82 = .ok (.istore 5, 2) := by decide +kernel
theorem dX2_choose_84 : decode cX2_choose 84 = .ok (.iload 9, 2) := by decide +kernel
theorem dX2_choose_86 : decode cX2_choose 86 = .ok (.istore 6, 2) := by decide +kernel
theorem dX2_choose_88 : decode cX2_choose 88 = .ok (.aload_n 0, 1) := by decide +kernel
theorem dX2_choose_89 : decode cX2_choose 89 = .ok (.getfield 34, 3) := by decide +kernel
theorem dX2_choose_92 : decode cX2_choose 92 = .ok (.iload 4, 2) := by decide +kernel
theorem dX2_choose_94 : decode cX2_choose 94 = .ok (.iload 9, 2) := by decide +kernel
theorem dX2_choose_96 : decode cX2_choose 96 = .ok (.iadd, 1) := by decide +kernel
theorem dX2_choose_97 : decode cX2_choose 97 = .ok (.laload, 1) := by decide +kernel
theorem dX2_choose_98 : decode cX2_choose 98 = .ok (.lstore 7, 2) := by decide +kernel
theorem dX2_choose_100 : decode cX2_choose 100 = .ok (.goto 25, 3) := by decide +kernel
theorem dX2_choose_103 : decode cX2_choose 103 = .ok (.iload 11, 2) := by decide +kernel
theorem dX2_choose_105 : decode cX2_choose 105 = .ok (.iload 5, 2) := by decide +kernel
theorem dX2_choose_107 : decode cX2_choose 107 = .ok (.if_icmp .ne 18, 3) := by decide +kernel
theorem dX2_choose_110 : decode cX2_choose 110 = .ok (.lload 7, 2) := by decide +kernel
theorem dX2_choose_112 : decode cX2_choose 112 = .ok (.aload_n 0, 1) := by decide +kernel
theorem dX2_choose_113 : decode cX2_choose 113 = .ok (.getfield 34, 3) := by decide +kernel
theorem dX2_choose_116 : decode cX2_choose 116 = .ok (.iload 4, 2) := by decide +kernel
theorem dX2_choose_118 : decode cX2_choose 118 = .ok (.iload 9, 2) := by decide +kernel
theorem dX2_choose_120 : decode cX2_choose 120 = .ok (.iadd, 1) := by decide +kernel
theorem dX2_choose_121 : decode cX2_choose 121 = .ok (.laload, 1) := by decide +kernel
theorem dX2_choose_122 : decode cX2_choose 122 = .ok (.ladd, 1) := by decide +kernel
theorem dX2_choose_123 : decode cX2_choose 123 = .ok (.lstore 7, 2) := by decide +kernel
theorem dX2_choose_125 : decode cX2_choose 125 = .ok (.iinc 9 1, 3) := by decide +kernel
theorem dX2_choose_128 : decode cX2_choose 128 = .ok (.goto (-107), 3) := by decide +kernel
theorem dX2_choose_131 : decode cX2_choose 131 = .ok (.aload_n 0, 1) := by decide +kernel
theorem dX2_choose_132 : decode cX2_choose 132 = .ok (.getfield 31, 3) := by decide +kernel
theorem dX2_choose_135 : decode cX2_choose 135 = .ok (.iload_n 1, 1) := by decide +kernel
theorem dX2_choose_136 : decode cX2_choose 136 = .ok (.iload 5, 2) := by decide +kernel
theorem dX2_choose_138 : decode cX2_choose 138 = .ok (.iastore, 1) := by decide +kernel
theorem dX2_choose_139 : decode cX2_choose 139 = .ok (.aload_n 0, 1) := by decide +kernel
theorem dX2_choose_140 : decode cX2_choose 140 = .ok (.getfield 34, 3) := by decide +kernel
theorem dX2_choose_143 : decode cX2_choose 143 = .ok (.iload_n 1, 1) := by decide +kernel
theorem dX2_choose_144 : decode cX2_choose 144 = .ok (.lload 7, 2) := by decide +kernel
theorem dX2_choose_146 : decode cX2_choose 146 = .ok (.lastore, 1) := by decide +kernel
theorem dX2_choose_147 : decode cX2_choose 147 = .ok (.aload_n 0, 1) := by decide +kernel
theorem dX2_choose_148 : decode cX2_choose 148 = .ok (.getfield 38, 3) := by decide +kernel
theorem dX2_choose_151 : decode cX2_choose 151 = .ok (.iload_n 1, 1) := by decide +kernel
theorem dX2_choose_152 : decode cX2_choose 152 = .ok (.iload 6, 2) := by decide +kernel
theorem dX2_choose_154 : decode cX2_choose 154 = .ok (.iastore, 1) := by decide +kernel
theorem dX2_choose_155 : decode cX2_choose 155 = .ok (.return_, 1) := by decide +kernel
theorem dX2_pick_0 : decode cX2_pick 0 = .ok (.iconst 0, 1) := by decide +kernel
theorem dX2_pick_1 : decode cX2_pick 1 = .ok (.istore_n 2, 1) := by decide +kernel
theorem dX2_pick_2 : decode cX2_pick 2 = .ok (.lconst 0, 1) := by decide +kernel
theorem dX2_pick_3 : decode cX2_pick 3 = .ok (.lstore_n 3, 1) := by decide +kernel
theorem dX2_pick_4 : decode cX2_pick 4 = .ok (.iconst 0, 1) := by decide +kernel
theorem dX2_pick_5 : decode cX2_pick 5 = .ok (.istore 5, 2) := by decide +kernel
theorem dX2_pick_7 : decode cX2_pick 7 = .ok (.iload 5, 2) := by decide +kernel
theorem dX2_pick_9 : decode cX2_pick 9 = .ok (.bipush 24, 2) := by decide +kernel
theorem dX2_pick_11 : decode cX2_pick 11 = .ok (.if_icmp .ge 56, 3) := by decide +kernel
theorem dX2_pick_14 : decode cX2_pick 14 = .ok (.aload_n 0, 1) := by decide +kernel
theorem dX2_pick_15 : decode cX2_pick 15 = .ok (.getfield 31, 3) := by decide +kernel
theorem dX2_pick_18 : decode cX2_pick 18 = .ok (.iload 5, 2) := by decide +kernel
theorem dX2_pick_20 : decode cX2_pick 20 = .ok (.iaload, 1) := by decide +kernel
theorem dX2_pick_21 : decode cX2_pick 21 = .ok (.aload_n 0, 1) := by decide +kernel
theorem dX2_pick_22 : decode cX2_pick 22 = .ok (.getfield 31, 3) := by decide +kernel
theorem dX2_pick_25 : decode cX2_pick 25 = .ok (.iload_n 2, 1) := by decide +kernel
theorem dX2_pick_26 : decode cX2_pick 26 = .ok (.iaload, 1) := by decide +kernel
theorem dX2_pick_27 : decode cX2_pick 27 = .ok (.if_icmp .ge 8, 3) := by decide +kernel
theorem dX2_pick_30 : decode cX2_pick 30 = .ok (.iload 5, 2) := by decide +kernel
theorem dX2_pick_32 : decode cX2_pick 32 = .ok (.istore_n 2, 1) := by decide +kernel
theorem dX2_pick_33 : decode cX2_pick 33 = .ok (.lconst 0, 1) := by decide +kernel
theorem dX2_pick_34 : decode cX2_pick 34 = .ok (.lstore_n 3, 1) := by decide +kernel
theorem dX2_pick_35 : decode cX2_pick 35 = .ok (.aload_n 0, 1) := by decide +kernel
theorem dX2_pick_36 : decode cX2_pick 36 = .ok (.getfield 31, 3) := by decide +kernel
theorem dX2_pick_39 : decode cX2_pick 39 = .ok (.iload 5, 2) := by decide +kernel
theorem dX2_pick_41 : decode cX2_pick 41 = .ok (.iaload, 1) := by decide +kernel
theorem dX2_pick_42 : decode cX2_pick 42 = .ok (.aload_n 0, 1) := by decide +kernel
theorem dX2_pick_43 : decode cX2_pick 43 = .ok (.getfield 31, 3) := by decide +kernel
theorem dX2_pick_46 : decode cX2_pick 46 = .ok (.iload_n 2, 1) := by decide +kernel
theorem dX2_pick_47 : decode cX2_pick 47 = .ok (.iaload, 1) := by decide +kernel
theorem dX2_pick_48 : decode cX2_pick 48 = .ok (.if_icmp .ne 13, 3) := by decide +kernel
theorem dX2_pick_51 : decode cX2_pick 51 = .ok (.lload_n 3, 1) := by decide +kernel
theorem dX2_pick_52 : decode cX2_pick 52 = .ok (.aload_n 0, 1) := by decide +kernel
theorem dX2_pick_53 : decode cX2_pick 53 = .ok (.getfield 34, 3) := by decide +kernel
theorem dX2_pick_56 : decode cX2_pick 56 = .ok (.iload 5, 2) := by decide +kernel
theorem dX2_pick_58 : decode cX2_pick 58 = .ok (.laload, 1) := by decide +kernel
theorem dX2_pick_59 : decode cX2_pick 59 = .ok (.ladd, 1) := by decide +kernel
theorem dX2_pick_60 : decode cX2_pick 60 = .ok (.lstore_n 3, 1) := by decide +kernel
theorem dX2_pick_61 : decode cX2_pick 61 = .ok (.iinc 5 1, 3) := by decide +kernel
theorem dX2_pick_64 : decode cX2_pick 64 = .ok (.goto (-57), 3) := by decide +kernel
theorem dX2_pick_67 : decode cX2_pick 67 = .ok (.aload_n 0, 1) := by decide +kernel
theorem dX2_pick_68 : decode cX2_pick 68 = .ok (.aload_n 0, 1) := by decide +kernel
theorem dX2_pick_69 : decode cX2_pick 69 = .ok (.getfield 31, 3) := by decide +kernel
theorem dX2_pick_72 : decode cX2_pick 72 = .ok (.iload_n 2, 1) := by decide +kernel
theorem dX2_pick_73 : decode cX2_pick 73 = .ok (.iaload, 1) := by decide +kernel
theorem dX2_pick_74 : decode cX2_pick 74 = .ok (.putfield 9, 3) := by decide +kernel
theorem dX2_pick_77 : decode cX2_pick 77 = .ok (.aload_n 0, 1) := by decide +kernel
theorem dX2_pick_78 : decode cX2_pick 78 = .ok (.lload_n 3, 1) := by decide +kernel
theorem dX2_pick_79 : decode cX2_pick 79 = .ok (.ldc2_w 73, 3) := by decide +kernel
theorem dX2_pick_82 : decode cX2_pick 82 = .ok (.invokestatic 75, 3) := by decide +kernel
theorem dX2_pick_85 : decode cX2_pick 85 = .ok (.l2i, 1) := by decide +kernel
theorem dX2_pick_86 : decode cX2_pick 86 = .ok (.putfield 15, 3) := by decide +kernel
theorem dX2_pick_89 : decode cX2_pick 89 = .ok (.iload_n 2, 1) := by decide +kernel
theorem dX2_pick_90 : decode cX2_pick 90 = .ok (.istore 5, 2) := by decide +kernel
theorem dX2_pick_92 : decode cX2_pick 92 = .ok (.iconst 0, 1) := by decide +kernel
theorem dX2_pick_93 : decode cX2_pick 93 = .ok (.istore 6, 2) := by decide +kernel
theorem dX2_pick_95 : decode cX2_pick 95 = .ok (.iload 6, 2) := by decide +kernel
theorem dX2_pick_97 : decode cX2_pick 97 = .ok (.iload_n 1, 1) := by decide +kernel
theorem dX2_pick_98 : decode cX2_pick 98 = .ok (.if_icmp .ge 36, 3) := by decide +kernel
theorem dX2_pick_101 : decode cX2_pick 101 = .ok (.aload_n 0, 1) := by decide +kernel
theorem dX2_pick_102 : decode cX2_pick 102 = .ok (.getfield 21, 3) := by decide +kernel
theorem dX2_pick_105 : decode cX2_pick 105 = .ok (.iload 6, 2) := by decide +kernel
theorem dX2_pick_107 : decode cX2_pick 107 = .ok (.bipush (-15), 2) := by decide +kernel
theorem dX2_pick_109 : decode cX2_pick 109 = .ok (.iload 5, 2) := by decide +kernel
theorem dX2_pick_111 : decode cX2_pick 111 = .ok (.iadd, 1) := by decide +kernel
theorem dX2_pick_112 : decode cX2_pick 112 = .ok (.iastore, 1) := by decide +kernel
theorem dX2_pick_113 : decode cX2_pick 113 = .ok (.aload_n 0, 1) := by decide +kernel
theorem dX2_pick_114 : decode cX2_pick 114 = .ok (.getfield 38, 3) := by decide +kernel
theorem dX2_pick_117 : decode cX2_pick 117 = .ok (.iload 6, 2) := by decide +kernel
theorem dX2_pick_119 : decode cX2_pick 119 = .ok (.bipush 24, 2) := by decide +kernel
theorem dX2_pick_121 : decode cX2_pick 121 = .ok (.imul, 1) := by decide +kernel
theorem dX2_pick_122 : decode cX2_pick 122 = .ok (.iload 5, 2) := by decide +kernel
theorem dX2_pick_124 : decode cX2_pick 124 = .ok (.iadd, 1) := by decide +kernel
theorem dX2_pick_125 : decode cX2_pick 125 = .ok (.iaload, 1) := by decide +kernel
theorem dX2_pick_126 : decode cX2_pick 126 = .ok (.istore 5, 2) := by decide +kernel
theorem dX2_pick_128 : decode cX2_pick 128 = .ok (.iinc 6 1, 3) := by decide +kernel
theorem dX2_pick_131 : decode cX2_pick 131 = .ok (.goto (-36), 3) := by decide +kernel
theorem dX2_pick_134 : decode cX2_pick 134 = .ok (.return_, 1) := by decide +kernel
theorem dX2_spell_0 : decode cX2_spell 0 = .ok (.aload_n 0, 1) := by decide +kernel
theorem dX2_spell_1 : decode cX2_spell 1 = .ok (.iconst 0, 1) := by decide +kernel
theorem dX2_spell_2 : decode cX2_spell 2 = .ok (.putfield 18, 3) := by decide +kernel
theorem dX2_spell_5 : decode cX2_spell 5 = .ok (.iconst 0, 1) := by decide +kernel
theorem dX2_spell_6 : decode cX2_spell 6 = .ok (.istore_n 2, 1) := by decide +kernel
theorem dX2_spell_7 : decode cX2_spell 7 = .ok (.iload_n 2, 1) := by decide +kernel
theorem dX2_spell_8 : decode cX2_spell 8 = .ok (.aload_n 1, 1) := by decide +kernel
theorem dX2_spell_9 : decode cX2_spell 9 = .ok (.getfield 81, 3) := by decide +kernel
theorem dX2_spell_12 : decode cX2_spell 12 = .ok (.if_icmp .ge 70, 3) := by decide +kernel
theorem dX2_spell_15 : decode cX2_spell 15 = .ok (.aload_n 1, 1) := by decide +kernel
theorem dX2_spell_16 : decode cX2_spell 16 = .ok (.getfield 84, 3) := by decide +kernel
theorem dX2_spell_19 : decode cX2_spell 19 = .ok (.iload_n 2, 1) := by decide +kernel
theorem dX2_spell_20 : decode cX2_spell 20 = .ok (.iaload, 1) := by decide +kernel
theorem dX2_spell_21 : decode cX2_spell 21 = .ok (.istore_n 3, 1) := by decide +kernel
theorem dX2_spell_22 : decode cX2_spell 22 = .ok (.iload_n 2, 1) := by decide +kernel
theorem dX2_spell_23 : decode cX2_spell 23 = .ok (.aload_n 1, 1) := by decide +kernel
theorem dX2_spell_24 : decode cX2_spell 24 = .ok (.getfield 87, 3) := by decide +kernel
theorem dX2_spell_27 : decode cX2_spell 27 = .ok (.iload_n 3, 1) := by decide +kernel
theorem dX2_spell_28 : decode cX2_spell 28 = .ok (.iaload, 1) := by decide +kernel
theorem dX2_spell_29 : decode cX2_spell 29 = .ok (.if_icmp .ne 21, 3) := by decide +kernel
theorem dX2_spell_32 : decode cX2_spell 32 = .ok (.aload_n 1, 1) := by decide +kernel
theorem dX2_spell_33 : decode cX2_spell 33 = .ok (.getfield 90, 3) := by decide +kernel
theorem dX2_spell_36 : decode cX2_spell 36 = .ok (.iload_n 3, 1) := by decide +kernel
theorem dX2_spell_37 : decode cX2_spell 37 = .ok (.iaload, 1) := by decide +kernel
theorem dX2_spell_38 : decode cX2_spell 38 = .ok (.iconst 1, 1) := by decide +kernel
theorem dX2_spell_39 : decode cX2_spell 39 = .ok (.if_icmp .ne 11, 3) := by decide +kernel
theorem dX2_spell_42 : decode cX2_spell 42 = .ok (.aload_n 0, 1) := by decide +kernel
theorem dX2_spell_43 : decode cX2_spell 43 = .ok (.aload_n 1, 1) := by decide +kernel
theorem dX2_spell_44 : decode cX2_spell 44 = .ok (.getfield 93, 3) := by decide +kernel
theorem dX2_spell_47 : decode cX2_spell 47 = .ok (.invokevirtual 96, 3) := by decide +kernel
theorem dX2_spell_50 : decode cX2_spell 50 = .ok (.aload_n 0, 1) := by decide +kernel
theorem dX2_spell_51 : decode cX2_spell 51 = .ok (.getfield 25, 3) := by decide +kernel
theorem dX2_spell_54 : decode cX2_spell 54 = .ok (.iload_n 2, 1) := by decide +kernel
theorem dX2_spell_55 : decode cX2_spell 55 = .ok (.aload_n 0, 1) := by decide +kernel
theorem dX2_spell_56 : decode cX2_spell 56 = .ok (.getfield 21, 3) := by decide +kernel
theorem dX2_spell_59 : decode cX2_spell 59 = .ok (.iload_n 3, 1) := by decide +kernel
theorem dX2_spell_60 : decode cX2_spell 60 = .ok (.iaload, 1) := by decide +kernel
theorem dX2_spell_61 : decode cX2_spell 61 = .ok (.aload_n 1, 1) := by decide +kernel
theorem dX2_spell_62 : decode cX2_spell 62 = .ok (.getfield 99, 3) := by decide +kernel
theorem dX2_spell_65 : decode cX2_spell 65 = .ok (.iload_n 2, 1) := by decide +kernel
theorem dX2_spell_66 : decode cX2_spell 66 = .ok (.iaload, 1) := by decide +kernel
theorem dX2_spell_67 : decode cX2_spell 67 = .ok (.invokestatic 102, 3) := by decide +kernel
theorem dX2_spell_70 : decode cX2_spell 70 = .ok (.iastore, 1) := by decide +kernel
theorem dX2_spell_71 : decode cX2_spell 71 = .ok (.aload_n 0, 1) := by decide +kernel
theorem dX2_spell_72 : decode cX2_spell 72 = .ok (.iload_n 2, 1) := by decide +kernel
theorem dX2_spell_73 : decode cX2_spell 73 = .ok (.invokevirtual 107, 3) := by decide +kernel
theorem dX2_spell_76 : decode cX2_spell 76 = .ok (.iinc 2 1, 3) := by decide +kernel
theorem dX2_spell_79 : decode cX2_spell 79 = .ok (.goto (-72), 3) := by decide +kernel
theorem dX2_spell_82 : decode cX2_spell 82 = .ok (.return_, 1) := by decide +kernel
theorem dX2_beginBar_0 : decode cX2_beginBar 0 = .ok (.iconst 0, 1) := by decide +kernel
theorem dX2_beginBar_1 : decode cX2_beginBar 1 = .ok (.istore_n 2, 1) := by decide +kernel
theorem dX2_beginBar_2 : decode cX2_beginBar 2 = .ok (.iload_n 2, 1) := by decide +kernel
theorem dX2_beginBar_3 : decode cX2_beginBar 3 = .ok (.bipush 7, 2) := by decide +kernel
theorem dX2_beginBar_5 : decode cX2_beginBar 5 = .ok (.if_icmp .ge 20, 3) := by decide +kernel
theorem dX2_beginBar_8 : decode cX2_beginBar 8 = .ok (.aload_n 0, 1) := by decide +kernel
theorem dX2_beginBar_9 : decode cX2_beginBar 9 = .ok (.getfield 41, 3) := by decide +kernel
theorem dX2_beginBar_12 : decode cX2_beginBar 12 = .ok (.iload_n 2, 1) := by decide +kernel
theorem dX2_beginBar_13 : decode cX2_beginBar 13 = .ok (.iload_n 1, 1) := by decide +kernel
theorem dX2_beginBar_14 : decode cX2_beginBar 14 = .ok (.iload_n 2, 1) := by decide +kernel
theorem dX2_beginBar_15 : decode cX2_beginBar 15 = .ok (.invokestatic 110, 3) := by decide +kernel
theorem dX2_beginBar_18 : decode cX2_beginBar 18 = .ok (.iastore, 1) := by decide +kernel
theorem dX2_beginBar_19 : decode cX2_beginBar 19 = .ok (.iinc 2 1, 3) := by decide +kernel
theorem dX2_beginBar_22 : decode cX2_beginBar 22 = .ok (.goto (-20), 3) := by decide +kernel
theorem dX2_beginBar_25 : decode cX2_beginBar 25 = .ok (.return_, 1) := by decide +kernel
theorem dX2_print_0 : decode cX2_print 0 = .ok (.aload_n 0, 1) := by decide +kernel
theorem dX2_print_1 : decode cX2_print 1 = .ok (.getfield 25, 3) := by decide +kernel
theorem dX2_print_4 : decode cX2_print 4 = .ok (.iload_n 1, 1) := by decide +kernel
theorem dX2_print_5 : decode cX2_print 5 = .ok (.iaload, 1) := by decide +kernel
theorem dX2_print_6 : decode cX2_print 6 = .ok (.invokestatic 113, 3) := by decide +kernel
theorem dX2_print_9 : decode cX2_print 9 = .ok (.istore_n 2, 1) := by decide +kernel
theorem dX2_print_10 : decode cX2_print 10 = .ok (.aload_n 0, 1) := by decide +kernel
theorem dX2_print_11 : decode cX2_print 11 = .ok (.getfield 25, 3) := by decide +kernel
theorem dX2_print_14 : decode cX2_print 14 = .ok (.iload_n 1, 1) := by decide +kernel
theorem dX2_print_15 : decode cX2_print 15 = .ok (.iaload, 1) := by decide +kernel
theorem dX2_print_16 : decode cX2_print 16 = .ok (.invokestatic 117, 3) := by decide +kernel
theorem dX2_print_19 : decode cX2_print 19 = .ok (.istore_n 3, 1) := by decide +kernel
theorem dX2_print_20 : decode cX2_print 20 = .ok (.aload_n 0, 1) := by decide +kernel
theorem dX2_print_21 : decode cX2_print 21 = .ok (.getfield 41, 3) := by decide +kernel
theorem dX2_print_24 : decode cX2_print 24 = .ok (.iload_n 2, 1) := by decide +kernel
theorem dX2_print_25 : decode cX2_print 25 = .ok (.iaload, 1) := by decide +kernel
theorem dX2_print_26 : decode cX2_print 26 = .ok (.iload_n 3, 1) := by decide +kernel
theorem dX2_print_27 : decode cX2_print 27 = .ok (.if_icmp .ne 14, 3) := by decide +kernel
theorem dX2_print_30 : decode cX2_print 30 = .ok (.aload_n 0, 1) := by decide +kernel
theorem dX2_print_31 : decode cX2_print 31 = .ok (.getfield 28, 3) := by decide +kernel
theorem dX2_print_34 : decode cX2_print 34 = .ok (.iload_n 1, 1) := by decide +kernel
theorem dX2_print_35 : decode cX2_print 35 = .ok (.ldc 120, 2) := by decide +kernel
theorem dX2_print_37 : decode cX2_print 37 = .ok (.iastore, 1) := by decide +kernel
theorem dX2_print_38 : decode cX2_print 38 = .ok (.goto 27, 3) := by decide +kernel
theorem dX2_print_41 : decode cX2_print 41 = .ok (.aload_n 0, 1) := by decide +kernel
theorem dX2_print_42 : decode cX2_print 42 = .ok (.getfield 28, 3) := by decide +kernel
theorem dX2_print_45 : decode cX2_print 45 = .ok (.iload_n 1, 1) := by decide +kernel
theorem dX2_print_46 : decode cX2_print 46 = .ok (.iload_n 3, 1) := by decide +kernel
theorem dX2_print_47 : decode cX2_print 47 = .ok (.iastore, 1) := by decide +kernel
theorem dX2_print_48 : decode cX2_print 48 = .ok (.aload_n 0, 1) := by decide +kernel
theorem dX2_print_49 : decode cX2_print 49 = .ok (.getfield 41, 3) := by decide +kernel
theorem dX2_print_52 : decode cX2_print 52 = .ok (.iload_n 2, 1) := by decide +kernel
theorem dX2_print_53 : decode cX2_print 53 = .ok (.iload_n 3, 1) := by decide +kernel
theorem dX2_print_54 : decode cX2_print 54 = .ok (.iastore, 1) := by decide +kernel
theorem dX2_print_55 : decode cX2_print 55 = .ok (.aload_n 0, 1) := by decide +kernel
theorem dX2_print_56 : decode cX2_print 56 = .ok (.dup, 1) := by decide +kernel
theorem dX2_print_57 : decode cX2_print 57 = .ok (.getfield 18, 3) := by decide +kernel
theorem dX2_print_60 : decode cX2_print 60 = .ok (.iconst 1, 1) := by decide +kernel
theorem dX2_print_61 : decode cX2_print 61 = .ok (.iadd, 1) := by decide +kernel
theorem dX2_print_62 : decode cX2_print 62 = .ok (.putfield 18, 3) := by decide +kernel
theorem dX2_print_65 : decode cX2_print 65 = .ok (.return_, 1) := by decide +kernel
theorem dX3_letterOf_0 : decode cX3_letterOf 0 = .ok (.iload_n 0, 1) := by decide +kernel
theorem dX3_letterOf_1 : decode cX3_letterOf 1 = .ok (.iconst 1, 1) := by decide +kernel
theorem dX3_letterOf_2 : decode cX3_letterOf 2 = .ok (.iadd, 1) := by decide +kernel
theorem dX3_letterOf_3 : decode cX3_letterOf 3 = .ok (.bipush 7, 2) := by decide +kernel
theorem dX3_letterOf_5 : decode cX3_letterOf 5 = .ok (.invokestatic 9, 3) := by decide +kernel
theorem dX3_letterOf_8 : decode cX3_letterOf 8 = .ok (.ireturn, 1) := by decide +kernel
theorem dX3_alterOf_0 : decode cX3_alterOf 0 = .ok (.iload_n 0, 1) := by decide +kernel
theorem dX3_alterOf_1 : decode cX3_alterOf 1 = .ok (.iconst 1, 1) := by decide +kernel
theorem dX3_alterOf_2 : decode cX3_alterOf 2 = .ok (.iadd, 1) := by decide +kernel
theorem dX3_alterOf_3 : decode cX3_alterOf 3 = .ok (.bipush 7, 2) := by decide +kernel
theorem dX3_alterOf_5 : decode cX3_alterOf 5 = .ok (.invokestatic 15, 3) := by decide +kernel
theorem dX3_alterOf_8 : decode cX3_alterOf 8 = .ok (.ireturn, 1) := by decide +kernel
theorem dX3_keyOf_0 : decode cX3_keyOf 0 = .ok (.bipush 7, 2) := by decide +kernel
theorem dX3_keyOf_2 : decode cX3_keyOf 2 = .ok (.iload_n 0, 1) := by decide +kernel
theorem dX3_keyOf_3 : decode cX3_keyOf 3 = .ok (.imul, 1) := by decide +kernel
theorem dX3_keyOf_4 : decode cX3_keyOf 4 = .ok (.bipush 12, 2) := by decide +kernel
theorem dX3_keyOf_6 : decode cX3_keyOf 6 = .ok (.invokestatic 9, 3) := by decide +kernel
theorem dX3_keyOf_9 : decode cX3_keyOf 9 = .ok (.ireturn, 1) := by decide +kernel
theorem dX3_placeIn_0 : decode cX3_placeIn 0 = .ok (.iload_n 0, 1) := by decide +kernel
theorem dX3_placeIn_1 : decode cX3_placeIn 1 = .ok (.bipush 7, 2) := by decide +kernel
theorem dX3_placeIn_3 : decode cX3_placeIn 3 = .ok (.iload_n 1, 1) := by decide +kernel
theorem dX3_placeIn_4 : decode cX3_placeIn 4 = .ok (.imul, 1) := by decide +kernel
theorem dX3_placeIn_5 : decode cX3_placeIn 5 = .ok (.iload_n 0, 1) := by decide +kernel
theorem dX3_placeIn_6 : decode cX3_placeIn 6 = .ok (.isub, 1) := by decide +kernel
theorem dX3_placeIn_7 : decode cX3_placeIn 7 = .ok (.bipush 12, 2) := by decide +kernel
theorem dX3_placeIn_9 : decode cX3_placeIn 9 = .ok (.invokestatic 9, 3) := by decide +kernel
theorem dX3_placeIn_12 : decode cX3_placeIn 12 = .ok (.iadd, 1) := by decide +kernel
theorem dX3_placeIn_13 : decode cX3_placeIn 13 = .ok (.ireturn, 1) := by decide +kernel
theorem dX3_headOf_0 : decode cX3_headOf 0 = .ok (.iload_n 1, 1) := by decide +kernel
theorem dX3_headOf_1 : decode cX3_headOf 1 = .ok (.iload_n 0, 1) := by decide +kernel
theorem dX3_headOf_2 : decode cX3_headOf 2 = .ok (.bipush 7, 2) := by decide +kernel
theorem dX3_headOf_4 : decode cX3_headOf 4 = .ok (.isub, 1) := by decide +kernel
theorem dX3_headOf_5 : decode cX3_headOf 5 = .ok (.if_icmp .ge 5, 3) := by decide +kernel
theorem dX3_headOf_8 : decode cX3_headOf 8 = .ok (.iconst 1, 1) := by decide +kernel
theorem dX3_headOf_9 : decode cX3_headOf 9 = .ok (.ireturn, 1) := by decide +kernel
theorem dX3_headOf_10 : decode cX3_headOf 10 = .ok (.iload_n 1, 1) := by decide +kernel
theorem dX3_headOf_11 : decode cX3_headOf 11 = .ok (.iload_n 0, 1) := by decide +kernel
theorem dX3_headOf_12 : decode cX3_headOf 12 = .ok (.if_icmp .lt 7, 3) := by decide +kernel
theorem dX3_headOf_15 : decode cX3_headOf 15 = .ok (.iconst (-1), 1) := by decide +kernel
theorem dX3_headOf_16 : decode cX3_headOf 16 = .ok (.goto 4, 3) := by decide +kernel
theorem dX3_headOf_19 : decode cX3_headOf 19 = .ok (.iconst 0, 1) := by decide +kernel
theorem dX3_headOf_20 : decode cX3_headOf 20 = .ok (.ireturn, 1) := by decide +kernel
theorem dX4_init_0 : decode cX4_init 0 = .ok (.aload_n 0, 1) := by decide +kernel
theorem dX4_init_1 : decode cX4_init 1 = .ok (.invokespecial 3, 3) := by decide +kernel
theorem dX4_init_4 : decode cX4_init 4 = .ok (.aload_n 0, 1) := by decide +kernel
theorem dX4_init_5 : decode cX4_init 5 = .ok (.iconst 0, 1) := by decide +kernel
theorem dX4_init_6 : decode cX4_init 6 = .ok (.putfield 9, 3) := by decide +kernel
theorem dX4_init_9 : decode cX4_init 9 = .ok (.aload_n 0, 1) := by decide +kernel
theorem dX4_init_10 : decode cX4_init 10 = .ok (.iconst 0, 1) := by decide +kernel
theorem dX4_init_11 : decode cX4_init 11 = .ok (.putfield 15, 3) := by decide +kernel
theorem dX4_init_14 : decode cX4_init 14 = .ok (.aload_n 0, 1) := by decide +kernel
theorem dX4_init_15 : decode cX4_init 15 = .ok (.iconst 0, 1) := by decide +kernel
theorem dX4_init_16 : decode cX4_init 16 = .ok (.putfield 18, 3) := by decide +kernel
theorem dX4_init_19 : decode cX4_init 19 = .ok (.aload_n 0, 1) := by decide +kernel
theorem dX4_init_20 : decode cX4_init 20 = .ok (.bipush 10, 2) := by decide +kernel
theorem dX4_init_22 : decode cX4_init 22 = .ok (.newarray .int, 2) := by decide +kernel
theorem dX4_init_24 : decode cX4_init 24 = .ok (.putfield 21, 3) := by decide +kernel
theorem dX4_init_27 : decode cX4_init 27 = .ok (.aload_n 0, 1) := by decide +kernel
theorem dX4_init_28 : decode cX4_init 28 = .ok (.bipush 10, 2) := by decide +kernel
theorem dX4_init_30 : decode cX4_init 30 = .ok (.newarray .int, 2) := by decide +kernel
theorem dX4_init_32 : decode cX4_init 32 = .ok (.putfield 25, 3) := by decide +kernel
theorem dX4_init_35 : decode cX4_init 35 = .ok (.aload_n 0, 1) := by decide +kernel
theorem dX4_init_36 : decode cX4_init 36 = .ok (.bipush 10, 2) := by decide +kernel
theorem dX4_init_38 : decode cX4_init 38 = .ok (.newarray .int, 2) := by decide +kernel
theorem dX4_init_40 : decode cX4_init 40 = .ok (.putfield 28, 3) := by decide +kernel
theorem dX4_init_43 : decode cX4_init 43 = .ok (.aload_n 0, 1) := by decide +kernel
theorem dX4_init_44 : decode cX4_init 44 = .ok (.bipush 11, 2) := by decide +kernel
theorem dX4_init_46 : decode cX4_init 46 = .ok (.newarray .int, 2) := by decide +kernel
theorem dX4_init_48 : decode cX4_init 48 = .ok (.putfield 31, 3) := by decide +kernel
theorem dX4_init_51 : decode cX4_init 51 = .ok (.aload_n 0, 1) := by decide +kernel
theorem dX4_init_52 : decode cX4_init 52 = .ok (.bipush 40, 2) := by decide +kernel
theorem dX4_init_54 : decode cX4_init 54 = .ok (.newarray .int, 2) := by decide +kernel
theorem dX4_init_56 : decode cX4_init 56 = .ok (.putfield 34, 3) := by decide +kernel
theorem dX4_init_59 : decode cX4_init 59 = .ok (.aload_n 0, 1) := by decide +kernel
theorem dX4_init_60 : decode cX4_init 60 = .ok (.bipush 40, 2) := by decide +kernel
theorem dX4_init_62 : decode cX4_init 62 = .ok (.newarray .int, 2) := by decide +kernel
theorem dX4_init_64 : decode cX4_init 64 = .ok (.putfield 37, 3) := by decide +kernel
theorem dX4_init_67 : decode cX4_init 67 = .ok (.return_, 1) := by decide +kernel
theorem dX4_clear_0 : decode cX4_clear 0 = .ok (.aload_n 0, 1) := by decide +kernel
theorem dX4_clear_1 : decode cX4_clear 1 = .ok (.iconst 0, 1) := by decide +kernel
theorem dX4_clear_2 : decode cX4_clear 2 = .ok (.putfield 9, 3) := by decide +kernel
theorem dX4_clear_5 : decode cX4_clear 5 = .ok (.aload_n 0, 1) := by decide +kernel
theorem dX4_clear_6 : decode cX4_clear 6 = .ok (.iconst 0, 1) := by decide +kernel
theorem dX4_clear_7 : decode cX4_clear 7 = .ok (.putfield 15, 3) := by decide +kernel
theorem dX4_clear_10 : decode cX4_clear 10 = .ok (.aload_n 0, 1) := by decide +kernel
theorem dX4_clear_11 : decode cX4_clear 11 = .ok (.iconst 0, 1) := by decide +kernel
theorem dX4_clear_12 : decode cX4_clear 12 = .ok (.putfield 18, 3) := by decide +kernel
theorem dX4_clear_15 : decode cX4_clear 15 = .ok (.return_, 1) := by decide +kernel
theorem dX4_becomeLike_0 : decode cX4_becomeLike 0 = .ok (.aload_n 0, 1) := by decide +kernel
theorem dX4_becomeLike_1 : decode cX4_becomeLike 1 = .ok (.aload_n 1, 1) := by decide +kernel
theorem dX4_becomeLike_2 : decode cX4_becomeLike 2 = .ok (.getfield 9, 3) := by decide +kernel
theorem dX4_becomeLike_5 : decode cX4_becomeLike 5 = .ok (.putfield 9, 3) := by decide +kernel
theorem dX4_becomeLike_8 : decode cX4_becomeLike 8 = .ok (.aload_n 0, 1) := by decide +kernel
theorem dX4_becomeLike_9 : decode cX4_becomeLike 9 = .ok (.aload_n 1, 1) := by decide +kernel
theorem dX4_becomeLike_10 : decode cX4_becomeLike 10 = .ok (.getfield 15, 3) := by decide +kernel
theorem dX4_becomeLike_13 : decode cX4_becomeLike 13 = .ok (.putfield 15, 3) := by decide +kernel
theorem dX4_becomeLike_16 : decode cX4_becomeLike 16 = .ok (.aload_n 0, 1) := by decide +kernel
theorem dX4_becomeLike_17 : decode cX4_becomeLike 17 = .ok (.aload_n 1, 1) := by decide +kernel
theorem dX4_becomeLike_18 : decode cX4_becomeLike 18 = .ok (.getfield 18, 3) := by decide +kernel
theorem dX4_becomeLike_21 : decode cX4_becomeLike 21 = .ok (.putfield 18, 3) := by decide +kernel
theorem dX4_becomeLike_24 : decode cX4_becomeLike 24 = .ok (.aload_n 1, 1) := by decide +kernel
theorem dX4_becomeLike_25 : decode cX4_becomeLike 25 = .ok (.getfield 21, 3) := by decide +kernel
theorem dX4_becomeLike_28 : decode cX4_becomeLike 28 = .ok (.iconst 0, 1) := by decide +kernel
theorem dX4_becomeLike_29 : decode cX4_becomeLike 29 = .ok (.aload_n 0, 1) := by decide +kernel
theorem dX4_becomeLike_30 : decode cX4_becomeLike 30 = .ok (.getfield 21, 3) := by decide +kernel
theorem dX4_becomeLike_33 : decode cX4_becomeLike 33 = .ok (.iconst 0, 1) := by decide +kernel
theorem dX4_becomeLike_34 : decode cX4_becomeLike 34 = .ok (.aload_n 0, 1) := by decide +kernel
theorem dX4_becomeLike_35 : decode cX4_becomeLike 35 = .ok (.getfield 15, 3) := by decide +kernel
theorem dX4_becomeLike_38 : decode cX4_becomeLike 38 = .ok (.invokestatic 40, 3) := by decide +kernel
theorem dX4_becomeLike_41 : decode cX4_becomeLike 41 = .ok (.aload_n 1, 1) := by decide +kernel
theorem dX4_becomeLike_42 : decode cX4_becomeLike 42 = .ok (.getfield 25, 3) := by decide +kernel
theorem dX4_becomeLike_45 : decode cX4_becomeLike 45 = .ok (.iconst 0, 1) := by decide +kernel
theorem dX4_becomeLike_46 : decode cX4_becomeLike 46 = .ok (.aload_n 0, 1) := by decide +kernel
theorem dX4_becomeLike_47 : decode cX4_becomeLike 47 = .ok (.getfield 25, 3) := by decide +kernel
theorem dX4_becomeLike_50 : decode cX4_becomeLike 50 = .ok (.iconst 0, 1) := by decide +kernel
theorem dX4_becomeLike_51 : decode cX4_becomeLike 51 = .ok (.aload_n 0, 1) := by decide +kernel
theorem dX4_becomeLike_52 : decode cX4_becomeLike 52 = .ok (.getfield 15, 3) := by decide +kernel
theorem dX4_becomeLike_55 : decode cX4_becomeLike 55 = .ok (.invokestatic 40, 3) := by decide +kernel
theorem dX4_becomeLike_58 : decode cX4_becomeLike 58 = .ok (.aload_n 1, 1) := by decide +kernel
theorem dX4_becomeLike_59 : decode cX4_becomeLike 59 = .ok (.getfield 28, 3) := by decide +kernel
theorem dX4_becomeLike_62 : decode cX4_becomeLike 62 = .ok (.iconst 0, 1) := by decide +kernel
theorem dX4_becomeLike_63 : decode cX4_becomeLike 63 = .ok (.aload_n 0, 1) := by decide +kernel
theorem dX4_becomeLike_64 : decode cX4_becomeLike 64 = .ok (.getfield 28, 3) := by decide +kernel
theorem dX4_becomeLike_67 : decode cX4_becomeLike 67 = .ok (.iconst 0, 1) := by decide +kernel
theorem dX4_becomeLike_68 : decode cX4_becomeLike 68 = .ok (.aload_n 0, 1) := by decide +kernel
theorem dX4_becomeLike_69 : decode cX4_becomeLike 69 = .ok (.getfield 15, 3) := by decide +kernel
theorem dX4_becomeLike_72 : decode cX4_becomeLike 72 = .ok (.invokestatic 40, 3) := by decide +kernel
theorem dX4_becomeLike_75 : decode cX4_becomeLike 75 = .ok (.aload_n 1, 1) := by decide +kernel
theorem dX4_becomeLike_76 : decode cX4_becomeLike 76 = .ok (.getfield 31, 3) := by decide +kernel
theorem dX4_becomeLike_79 : decode cX4_becomeLike 79 = .ok (.iconst 0, 1) := by decide +kernel
theorem dX4_becomeLike_80 : decode cX4_becomeLike 80 = .ok (.aload_n 0, 1) := by decide +kernel
theorem dX4_becomeLike_81 : decode cX4_becomeLike 81 = .ok (.getfield 31, 3) := by decide +kernel
theorem dX4_becomeLike_84 : decode cX4_becomeLike 84 = .ok (.iconst 0, 1) := by decide +kernel
theorem dX4_becomeLike_85 : decode cX4_becomeLike 85 = .ok (.aload_n 0, 1) := by decide +kernel
theorem dX4_becomeLike_86 : decode cX4_becomeLike 86 = .ok (.getfield 15, 3) := by decide +kernel
theorem dX4_becomeLike_89 : decode cX4_becomeLike 89 = .ok (.iconst 1, 1) := by decide +kernel
theorem dX4_becomeLike_90 : decode cX4_becomeLike 90 = .ok (.iadd, 1) := by decide +kernel
theorem dX4_becomeLike_91 : decode cX4_becomeLike 91 = .ok (.invokestatic 40, 3) := by decide +kernel
theorem dX4_becomeLike_94 : decode cX4_becomeLike 94 = .ok (.aload_n 1, 1) := by decide +kernel
theorem dX4_becomeLike_95 : decode cX4_becomeLike 95 = .ok (.getfield 34, 3) := by decide +kernel
theorem dX4_becomeLike_98 : decode cX4_becomeLike 98 = .ok (.iconst 0, 1) := by decide +kernel
theorem dX4_becomeLike_99 : decode cX4_becomeLike 99 = .ok (.aload_n 0, 1) := by decide +kernel
theorem dX4_becomeLike_100 : decode cX4_becomeLike 100 = .ok (.getfield 34, 3) := by decide +kernel
theorem dX4_becomeLike_103 : decode cX4_becomeLike 103 = .ok (.iconst 0, 1) := by decide +kernel
theorem dX4_becomeLike_104 : decode cX4_becomeLike 104 = .ok (.aload_n 0, 1) := by decide +kernel
theorem dX4_becomeLike_105 : decode cX4_becomeLike 105 = .ok (.getfield 18, 3) := by decide +kernel
theorem dX4_becomeLike_108 : decode cX4_becomeLike 108 = .ok (.invokestatic 40, 3) := by decide +kernel
theorem dX4_becomeLike_111 : decode cX4_becomeLike 111 = .ok (.aload_n 1, 1) := by decide +kernel
theorem dX4_becomeLike_112 : decode cX4_becomeLike 112 = .ok (.getfield 37, 3) := by decide +kernel
theorem dX4_becomeLike_115 : decode cX4_becomeLike 115 = .ok (.iconst 0, 1) := by decide +kernel
theorem dX4_becomeLike_116 : decode cX4_becomeLike 116 = .ok (.aload_n 0, 1) := by decide +kernel
theorem dX4_becomeLike_117 : decode cX4_becomeLike 117 = .ok (.getfield 37, 3) := by decide +kernel
theorem dX4_becomeLike_120 : decode cX4_becomeLike 120 = .ok (.iconst 0, 1) := by decide +kernel
theorem dX4_becomeLike_121 : decode cX4_becomeLike 121 = .ok (.aload_n 0, 1) := by decide +kernel
theorem dX4_becomeLike_122 : decode cX4_becomeLike 122 = .ok (.getfield 18, 3) := by decide +kernel
theorem dX4_becomeLike_125 : decode cX4_becomeLike 125 = .ok (.invokestatic 40, 3) := by decide +kernel
theorem dX4_becomeLike_128 : decode cX4_becomeLike 128 = .ok (.return_, 1) := by decide +kernel
theorem dX4_addChord_0 : decode cX4_addChord 0 = .ok (.aload_n 0, 1) := by decide +kernel
theorem dX4_addChord_1 : decode cX4_addChord 1 = .ok (.getfield 15, 3) := by decide +kernel
theorem dX4_addChord_4 : decode cX4_addChord 4 = .ok (.bipush 10, 2) := by decide +kernel
theorem dX4_addChord_6 : decode cX4_addChord 6 = .ok (.if_icmp .ge 85, 3) := by decide +kernel
theorem dX4_addChord_9 : decode cX4_addChord 9 = .ok (.aload_n 0, 1) := by decide +kernel
theorem dX4_addChord_10 : decode cX4_addChord 10 = .ok (.getfield 21, 3) := by decide +kernel
theorem dX4_addChord_13 : decode cX4_addChord 13 = .ok (.aload_n 0, 1) := by decide +kernel
theorem dX4_addChord_14 : decode cX4_addChord 14 = .ok (.getfield 15, 3) := by decide +kernel
theorem dX4_addChord_17 : decode cX4_addChord 17 = .ok (.iload_n 1, 1) := by decide +kernel
theorem dX4_addChord_18 : decode cX4_addChord 18 = .ok (.iastore, 1) := by decide +kernel
theorem dX4_addChord_19 : decode cX4_addChord 19 = .ok (.aload_n 0, 1) := by decide +kernel
theorem dX4_addChord_20 : decode cX4_addChord 20 = .ok (.getfield 25, 3) := by decide +kernel
theorem dX4_addChord_23 : decode cX4_addChord 23 = .ok (.aload_n 0, 1) := by decide +kernel
theorem dX4_addChord_24 : decode cX4_addChord 24 = .ok (.getfield 15, 3) := by decide +kernel
theorem dX4_addChord_27 : decode cX4_addChord 27 = .ok (.iload_n 2, 1) := by decide +kernel
theorem dX4_addChord_28 : decode cX4_addChord 28 = .ok (.ifCond .eq 7, 3) := by decide +kernel
theorem dX4_addChord_31 : decode cX4_addChord 31 = .ok (.iconst 1, 1) := by decide +kernel
theorem dX4_addChord_32 : decode cX4_addChord 32 = .ok (.goto 4, 3) := by decide +kernel
theorem dX4_addChord_35 : decode cX4_addChord 35 = .ok (.iconst 0, 1) := by decide +kernel
theorem dX4_addChord_36 : decode cX4_addChord 36 = .ok (.iastore, 1) := by decide +kernel
theorem dX4_addChord_37 : decode cX4_addChord 37 = .ok (.aload_n 0, 1) := by decide +kernel
theorem dX4_addChord_38 : decode cX4_addChord 38 = .ok (.getfield 28, 3) := by decide +kernel
theorem dX4_addChord_41 : decode cX4_addChord 41 = .ok (.aload_n 0, 1) := by decide +kernel
theorem dX4_addChord_42 : decode cX4_addChord 42 = .ok (.getfield 15, 3) := by decide +kernel
theorem dX4_addChord_45 : decode cX4_addChord 45 = .ok (.iload_n 3, 1) := by decide +kernel
theorem dX4_addChord_46 : decode cX4_addChord 46 = .ok (.ifCond .eq 7, 3) := by decide +kernel
theorem dX4_addChord_49 : decode cX4_addChord 49 = .ok (.iconst 1, 1) := by decide +kernel
theorem dX4_addChord_50 : decode cX4_addChord 50 = .ok (.goto 4, 3) := by decide +kernel
theorem dX4_addChord_53 : decode cX4_addChord 53 = .ok (.iconst 0, 1) := by decide +kernel
theorem dX4_addChord_54 : decode cX4_addChord 54 = .ok (.iastore, 1) := by decide +kernel
theorem dX4_addChord_55 : decode cX4_addChord 55 = .ok (.aload_n 0, 1) := by decide +kernel
theorem dX4_addChord_56 : decode cX4_addChord 56 = .ok (.getfield 31, 3) := by decide +kernel
theorem dX4_addChord_59 : decode cX4_addChord 59 = .ok (.aload_n 0, 1) := by decide +kernel
theorem dX4_addChord_60 : decode cX4_addChord 60 = .ok (.getfield 15, 3) := by decide +kernel
theorem dX4_addChord_63 : decode cX4_addChord 63 = .ok (.aload_n 0, 1) := by decide +kernel
theorem dX4_addChord_64 : decode cX4_addChord 64 = .ok (.getfield 18, 3) := by decide +kernel
theorem dX4_addChord_67 : decode cX4_addChord 67 = .ok (.iastore, 1) := by decide +kernel
theorem dX4_addChord_68 : decode cX4_addChord 68 = .ok (.aload_n 0, 1) := by decide +kernel
theorem dX4_addChord_69 : decode cX4_addChord 69 = .ok (.dup, 1) := by decide +kernel
theorem dX4_addChord_70 : decode cX4_addChord 70 = .ok (.getfield 15, 3) := by decide +kernel
theorem dX4_addChord_73 : decode cX4_addChord 73 = .ok (.iconst 1, 1) := by decide +kernel
theorem dX4_addChord_74 : decode cX4_addChord 74 = .ok (.iadd, 1) := by decide +kernel
theorem dX4_addChord_75 : decode cX4_addChord 75 = .ok (.putfield 15, 3) := by decide +kernel
theorem dX4_addChord_78 : decode cX4_addChord 78 = .ok (.aload_n 0, 1) := by decide +kernel
theorem dX4_addChord_79 : decode cX4_addChord 79 = .ok (.getfield 31, 3) := by decide +kernel
theorem dX4_addChord_82 : decode cX4_addChord 82 = .ok (.aload_n 0, 1) := by decide +kernel
theorem dX4_addChord_83 : decode cX4_addChord 83 = .ok (.getfield 15, 3) := by decide +kernel
theorem dX4_addChord_86 : decode cX4_addChord 86 = .ok (.aload_n 0, 1) := by decide +kernel
theorem dX4_addChord_87 : decode cX4_addChord 87 = .ok (.getfield 18, 3) := by decide +kernel
theorem dX4_addChord_90 : decode cX4_addChord 90 = .ok (.iastore, 1) := by decide +kernel
theorem dX4_addChord_91 : decode cX4_addChord 91 = .ok (.return_, 1) := by decide +kernel
theorem dX4_addKey_0 : decode cX4_addKey 0 = .ok (.aload_n 0, 1) := by decide +kernel
theorem dX4_addKey_1 : decode cX4_addKey 1 = .ok (.getfield 15, 3) := by decide +kernel
theorem dX4_addKey_4 : decode cX4_addKey 4 = .ok (.ifCond .le 60, 3) := by decide +kernel
theorem dX4_addKey_7 : decode cX4_addKey 7 = .ok (.aload_n 0, 1) := by decide +kernel
theorem dX4_addKey_8 : decode cX4_addKey 8 = .ok (.getfield 18, 3) := by decide +kernel
theorem dX4_addKey_11 : decode cX4_addKey 11 = .ok (.bipush 40, 2) := by decide +kernel
theorem dX4_addKey_13 : decode cX4_addKey 13 = .ok (.if_icmp .ge 51, 3) := by decide +kernel
theorem dX4_addKey_16 : decode cX4_addKey 16 = .ok (.aload_n 0, 1) := by decide +kernel
theorem dX4_addKey_17 : decode cX4_addKey 17 = .ok (.getfield 34, 3) := by decide +kernel
theorem dX4_addKey_20 : decode cX4_addKey 20 = .ok (.aload_n 0, 1) := by decide +kernel
theorem dX4_addKey_21 : decode cX4_addKey 21 = .ok (.getfield 18, 3) := by decide +kernel
theorem dX4_addKey_24 : decode cX4_addKey 24 = .ok (.iload_n 1, 1) := by decide +kernel
theorem dX4_addKey_25 : decode cX4_addKey 25 = .ok (.iastore, 1) := by decide +kernel
theorem dX4_addKey_26 : decode cX4_addKey 26 = .ok (.aload_n 0, 1) := by decide +kernel
theorem dX4_addKey_27 : decode cX4_addKey 27 = .ok (.getfield 37, 3) := by decide +kernel
theorem dX4_addKey_30 : decode cX4_addKey 30 = .ok (.aload_n 0, 1) := by decide +kernel
theorem dX4_addKey_31 : decode cX4_addKey 31 = .ok (.getfield 18, 3) := by decide +kernel
theorem dX4_addKey_34 : decode cX4_addKey 34 = .ok (.aload_n 0, 1) := by decide +kernel
theorem dX4_addKey_35 : decode cX4_addKey 35 = .ok (.getfield 15, 3) := by decide +kernel
theorem dX4_addKey_38 : decode cX4_addKey 38 = .ok (.iconst 1, 1) := by decide +kernel
theorem dX4_addKey_39 : decode cX4_addKey 39 = .ok (.isub, 1) := by decide +kernel
theorem dX4_addKey_40 : decode cX4_addKey 40 = .ok (.iastore, 1) := by decide +kernel
theorem dX4_addKey_41 : decode cX4_addKey 41 = .ok (.aload_n 0, 1) := by decide +kernel
theorem dX4_addKey_42 : decode cX4_addKey 42 = .ok (.dup, 1) := by decide +kernel
theorem dX4_addKey_43 : decode cX4_addKey 43 = .ok (.getfield 18, 3) := by decide +kernel
theorem dX4_addKey_46 : decode cX4_addKey 46 = .ok (.iconst 1, 1) := by decide +kernel
theorem dX4_addKey_47 : decode cX4_addKey 47 = .ok (.iadd, 1) := by decide +kernel
theorem dX4_addKey_48 : decode cX4_addKey 48 = .ok (.putfield 18, 3) := by decide +kernel
theorem dX4_addKey_51 : decode cX4_addKey 51 = .ok (.aload_n 0, 1) := by decide +kernel
theorem dX4_addKey_52 : decode cX4_addKey 52 = .ok (.getfield 31, 3) := by decide +kernel
theorem dX4_addKey_55 : decode cX4_addKey 55 = .ok (.aload_n 0, 1) := by decide +kernel
theorem dX4_addKey_56 : decode cX4_addKey 56 = .ok (.getfield 15, 3) := by decide +kernel
theorem dX4_addKey_59 : decode cX4_addKey 59 = .ok (.aload_n 0, 1) := by decide +kernel
theorem dX4_addKey_60 : decode cX4_addKey 60 = .ok (.getfield 18, 3) := by decide +kernel
theorem dX4_addKey_63 : decode cX4_addKey 63 = .ok (.iastore, 1) := by decide +kernel
theorem dX4_addKey_64 : decode cX4_addKey 64 = .ok (.return_, 1) := by decide +kernel
theorem dX4_sizeOf_0 : decode cX4_sizeOf 0 = .ok (.aload_n 0, 1) := by decide +kernel
theorem dX4_sizeOf_1 : decode cX4_sizeOf 1 = .ok (.getfield 31, 3) := by decide +kernel
theorem dX4_sizeOf_4 : decode cX4_sizeOf 4 = .ok (.iload_n 1, 1) := by decide +kernel
theorem dX4_sizeOf_5 : decode cX4_sizeOf 5 = .ok (.iconst 1, 1) := by decide +kernel
theorem dX4_sizeOf_6 : decode cX4_sizeOf 6 = .ok (.iadd, 1) := by decide +kernel
theorem dX4_sizeOf_7 : decode cX4_sizeOf 7 = .ok (.iaload, 1) := by decide +kernel
theorem dX4_sizeOf_8 : decode cX4_sizeOf 8 = .ok (.aload_n 0, 1) := by decide +kernel
theorem dX4_sizeOf_9 : decode cX4_sizeOf 9 = .ok (.getfield 31, 3) := by decide +kernel
theorem dX4_sizeOf_12 : decode cX4_sizeOf 12 = .ok (.iload_n 1, 1) := by decide +kernel
theorem dX4_sizeOf_13 : decode cX4_sizeOf 13 = .ok (.iaload, 1) := by decide +kernel
theorem dX4_sizeOf_14 : decode cX4_sizeOf 14 = .ok (.isub, 1) := by decide +kernel
theorem dX4_sizeOf_15 : decode cX4_sizeOf 15 = .ok (.ireturn, 1) := by decide +kernel
theorem dX4_moveBy_0 : decode cX4_moveBy 0 = .ok (.aload_n 0, 1) := by decide +kernel
theorem dX4_moveBy_1 : decode cX4_moveBy 1 = .ok (.dup, 1) := by decide +kernel
theorem dX4_moveBy_2 : decode cX4_moveBy 2 = .ok (.getfield 9, 3) := by decide +kernel
theorem dX4_moveBy_5 : decode cX4_moveBy 5 = .ok (.iload_n 1, 1) := by decide +kernel
theorem dX4_moveBy_6 : decode cX4_moveBy 6 = .ok (.iadd, 1) := by decide +kernel
theorem dX4_moveBy_7 : decode cX4_moveBy 7 = .ok (.putfield 9, 3) := by decide +kernel
theorem dX4_moveBy_10 : decode cX4_moveBy 10 = .ok (.iconst 0, 1) := by decide +kernel
theorem dX4_moveBy_11 : decode cX4_moveBy 11 = .ok (.istore_n 2, 1) := by decide +kernel
theorem dX4_moveBy_12 : decode cX4_moveBy 12 = .ok (.iload_n 2, 1) := by decide +kernel
theorem dX4_moveBy_13 : decode cX4_moveBy 13 = .ok (.aload_n 0, 1) := by decide +kernel
theorem dX4_moveBy_14 : decode cX4_moveBy 14 = .ok (.getfield 18, 3) := by decide +kernel
theorem dX4_moveBy_17 : decode cX4_moveBy 17 = .ok (.if_icmp .ge 31, 3) := by decide +kernel
theorem dX4_moveBy_20 : decode cX4_moveBy 20 = .ok (.aload_n 0, 1) := by decide +kernel
theorem dX4_moveBy_21 : decode cX4_moveBy 21 = .ok (.getfield 34, 3) := by decide +kernel
theorem dX4_moveBy_24 : decode cX4_moveBy 24 = .ok (.iload_n 2, 1) := by decide +kernel
theorem dX4_moveBy_25 : decode cX4_moveBy 25 = .ok (.aload_n 0, 1) := by decide +kernel
theorem dX4_moveBy_26 : decode cX4_moveBy 26 = .ok (.getfield 34, 3) := by decide +kernel
theorem dX4_moveBy_29 : decode cX4_moveBy 29 = .ok (.iload_n 2, 1) := by decide +kernel
theorem dX4_moveBy_30 : decode cX4_moveBy 30 = .ok (.iaload, 1) := by decide +kernel
theorem dX4_moveBy_31 : decode cX4_moveBy 31 = .ok (.bipush 7, 2) := by decide +kernel
theorem dX4_moveBy_33 : decode cX4_moveBy 33 = .ok (.iload_n 1, 1) := by decide +kernel
theorem dX4_moveBy_34 : decode cX4_moveBy 34 = .ok (.imul, 1) := by decide +kernel
theorem dX4_moveBy_35 : decode cX4_moveBy 35 = .ok (.iadd, 1) := by decide +kernel
theorem dX4_moveBy_36 : decode cX4_moveBy 36 = .ok (.bipush 12, 2) := by decide +kernel
theorem dX4_moveBy_38 : decode cX4_moveBy 38 = .ok (.invokestatic 46, 3) := by decide +kernel
theorem dX4_moveBy_41 : decode cX4_moveBy 41 = .ok (.iastore, 1) := by decide +kernel
theorem dX4_moveBy_42 : decode cX4_moveBy 42 = .ok (.iinc 2 1, 3) := by decide +kernel
theorem dX4_moveBy_45 : decode cX4_moveBy 45 = .ok (.goto (-33), 3) := by decide +kernel
theorem dX4_moveBy_48 : decode cX4_moveBy 48 = .ok (.return_, 1) := by decide +kernel
theorem dX4_staysWithin_0 : decode cX4_staysWithin 0 = .ok (.iload_n 1, 1) := by decide +kernel
theorem dX4_staysWithin_1 : decode cX4_staysWithin 1 = .ok (.ifCond .le 27, 3) := by decide +kernel
theorem dX4_staysWithin_4 : decode cX4_staysWithin 4 = .ok (.aload_n 0, 1) := by decide +kernel
theorem dX4_staysWithin_5 : decode cX4_staysWithin 5 = .ok (.getfield 21, 3) := by decide +kernel
theorem dX4_staysWithin_8 : decode cX4_staysWithin 8 = .ok (.iload_n 1, 1) := by decide +kernel
theorem dX4_staysWithin_9 : decode cX4_staysWithin 9 = .ok (.iaload, 1) := by decide +kernel
theorem dX4_staysWithin_10 : decode cX4_staysWithin 10 = .ok (.iconst 4, 1) := by decide +kernel
theorem dX4_staysWithin_11 : decode cX4_staysWithin 11 = .ok (.if_icmp .eq 13, 3) := by decide +kernel
theorem dX4_staysWithin_14 : decode cX4_staysWithin 14 = .ok (.aload_n 0, 1) := by decide +kernel
theorem dX4_staysWithin_15 : decode cX4_staysWithin 15 = .ok (.getfield 21, 3) := by decide +kernel
theorem dX4_staysWithin_18 : decode cX4_staysWithin 18 = .ok (.iload_n 1, 1) := by decide +kernel
theorem dX4_staysWithin_19 : decode cX4_staysWithin 19 = .ok (.iaload, 1) := by decide +kernel
theorem dX4_staysWithin_20 : decode cX4_staysWithin 20 = .ok (.iconst 5, 1) := by decide +kernel
theorem dX4_staysWithin_21 : decode cX4_staysWithin 21 = .ok (.if_icmp .ne 7, 3) := by decide +kernel
theorem dX4_staysWithin_24 : decode cX4_staysWithin 24 = .ok (.iconst 1, 1) := by decide +kernel
theorem dX4_staysWithin_25 : decode cX4_staysWithin 25 = .ok (.goto 4, 3) := by decide +kernel
theorem dX4_staysWithin_28 : decode cX4_staysWithin 28 = .ok (.iconst 0, 1) := by decide +kernel
theorem dX4_staysWithin_29 : decode cX4_staysWithin 29 = .ok (.ireturn, 1) := by decide +kernel
theorem dX4_priceBy_0 : decode cX4_priceBy 0 = .ok (.aload_n 0, 1) := by decide +kernel
theorem dX4_priceBy_1 : decode cX4_priceBy 1 = .ok (.getfield 21, 3) := by decide +kernel
theorem dX4_priceBy_4 : decode cX4_priceBy 4 = .ok (.iload_n 1, 1) := by decide +kernel
theorem dX4_priceBy_5 : decode cX4_priceBy 5 = .ok (.iaload, 1) := by decide +kernel
theorem dX4_priceBy_6 : decode cX4_priceBy 6 = .ok (.istore_n 3, 1) := by decide +kernel
theorem dX4_priceBy_7 : decode cX4_priceBy 7 = .ok (.iload_n 3, 1) := by decide +kernel
theorem dX4_priceBy_8 : decode cX4_priceBy 8 = .ok (.iconst 5, 1) := by decide +kernel
theorem dX4_priceBy_9 : decode cX4_priceBy 9 = .ok (.if_icmp .ne 5, 3) := by decide +kernel
theorem dX4_priceBy_12 : decode cX4_priceBy 12 = .ok (.iconst 0, 1) := by decide +kernel
theorem dX4_priceBy_13 : decode cX4_priceBy 13 = .ok (.ireturn, 1) := by decide +kernel
theorem dX4_priceBy_14 : decode cX4_priceBy 14 = .ok (.iconst 0, 1) := by decide +kernel
theorem dX4_priceBy_15 : decode cX4_priceBy 15 = .ok (.istore 4, 2) := by decide +kernel
theorem dX4_priceBy_17 : decode cX4_priceBy 17 = .ok (.iconst 0, 1) := by decide +kernel
theorem dX4_priceBy_18 : decode cX4_priceBy 18 = .ok (.istore 5, 2) := by decide +kernel
theorem dX4_priceBy_20 : decode cX4_priceBy 20 = .ok (.aload_n 0, 1) := by decide +kernel
theorem dX4_priceBy_21 : decode cX4_priceBy 21 = .ok (.getfield 31, 3) := by decide +kernel
theorem dX4_priceBy_24 : decode cX4_priceBy 24 = .ok (.iload_n 1, 1) := by decide +kernel
theorem dX4_priceBy_25 : decode cX4_priceBy 25 = .ok (.iaload, 1) := by decide +kernel
theorem dX4_priceBy_26 : decode cX4_priceBy 26 = .ok (.istore 6, 2) := by decide +kernel
theorem dX4_priceBy_28 : decode cX4_priceBy 28 = .ok (.iload 6, 2) := by decide +kernel
theorem dX4_priceBy_30 : decode cX4_priceBy 30 = .ok (.aload_n 0, 1) := by decide +kernel
theorem dX4_priceBy_31 : decode cX4_priceBy 31 = .ok (.getfield 31, 3) := by decide +kernel
theorem dX4_priceBy_34 : decode cX4_priceBy 34 = .ok (.iload_n 1, 1) := by decide +kernel
theorem dX4_priceBy_35 : decode cX4_priceBy 35 = .ok (.iconst 1, 1) := by decide +kernel
theorem dX4_priceBy_36 : decode cX4_priceBy 36 = .ok (.iadd, 1) := by decide +kernel
theorem dX4_priceBy_37 : decode cX4_priceBy 37 = .ok (.iaload, 1) := by decide +kernel
theorem dX4_priceBy_38 : decode cX4_priceBy 38 = .ok (.if_icmp .ge 80, 3) := by decide +kernel
theorem dX4_priceBy_41 : decode cX4_priceBy 41 = .ok (.iload_n 2, 1) := by decide +kernel
theorem dX4_priceBy_42 : decode cX4_priceBy 42 = .ok (.aload_n 0, 1) := by decide +kernel
theorem dX4_priceBy_43 : decode cX4_priceBy 43 = .ok (.getfield 34, 3) := by decide +kernel
theorem dX4_priceBy_46 : decode cX4_priceBy 46 = .ok (.iload 6, 2) := by decide +kernel
theorem dX4_priceBy_48 : decode cX4_priceBy 48 = .ok (.iaload, 1) := by decide +kernel
theorem dX4_priceBy_49 : decode cX4_priceBy 49 = .ok (.invokestatic 52, 3) := by decide +kernel
theorem dX4_priceBy_52 : decode cX4_priceBy 52 = .ok (.istore 7, 2) := by decide +kernel
theorem dX4_priceBy_54 : decode cX4_priceBy 54 = .ok (.iload 7, 2) := by decide +kernel
theorem dX4_priceBy_56 : decode cX4_priceBy 56 = .ok (.invokestatic 57, 3) := by decide +kernel
theorem dX4_priceBy_59 : decode cX4_priceBy 59 = .ok (.istore 8, 2) := by decide +kernel
theorem dX4_priceBy_61 : decode cX4_priceBy 61 = .ok (.iload 4, 2) := by decide +kernel
theorem dX4_priceBy_63 : decode cX4_priceBy 63 = .ok (.iload_n 3, 1) := by decide +kernel
theorem dX4_priceBy_64 : decode cX4_priceBy 64 = .ok (.iload 7, 2) := by decide +kernel
theorem dX4_priceBy_66 : decode cX4_priceBy 66 = .ok (.invokestatic 61, 3) := by decide +kernel
theorem dX4_priceBy_69 : decode cX4_priceBy 69 = .ok (.aload_n 0, 1) := by decide +kernel
theorem dX4_priceBy_70 : decode cX4_priceBy 70 = .ok (.getfield 9, 3) := by decide +kernel
theorem dX4_priceBy_73 : decode cX4_priceBy 73 = .ok (.iload 8, 2) := by decide +kernel
theorem dX4_priceBy_75 : decode cX4_priceBy 75 = .ok (.invokestatic 64, 3) := by decide +kernel
theorem dX4_priceBy_78 : decode cX4_priceBy 78 = .ok (.invokestatic 67, 3) := by decide +kernel
theorem dX4_priceBy_81 : decode cX4_priceBy 81 = .ok (.iadd, 1) := by decide +kernel
theorem dX4_priceBy_82 : decode cX4_priceBy 82 = .ok (.istore 4, 2) := by decide +kernel
theorem dX4_priceBy_84 : decode cX4_priceBy 84 = .ok (.iload 4, 2) := by decide +kernel
theorem dX4_priceBy_86 : decode cX4_priceBy 86 = .ok (.iconst 5, 1) := by decide +kernel
theorem dX4_priceBy_87 : decode cX4_priceBy 87 = .ok (.iload 5, 2) := by decide +kernel
theorem dX4_priceBy_89 : decode cX4_priceBy 89 = .ok (.iconst 4, 1) := by decide +kernel
theorem dX4_priceBy_90 : decode cX4_priceBy 90 = .ok (.iload 8, 2) := by decide +kernel
theorem dX4_priceBy_92 : decode cX4_priceBy 92 = .ok (.imul, 1) := by decide +kernel
theorem dX4_priceBy_93 : decode cX4_priceBy 93 = .ok (.ishr, 1) := by decide +kernel
theorem dX4_priceBy_94 : decode cX4_priceBy 94 = .ok (.bipush 15, 2) := by decide +kernel
theorem dX4_priceBy_96 : decode cX4_priceBy 96 = .ok (.iand, 1) := by decide +kernel
theorem dX4_priceBy_97 : decode cX4_priceBy 97 = .ok (.imul, 1) := by decide +kernel
theorem dX4_priceBy_98 : decode cX4_priceBy 98 = .ok (.iadd, 1) := by decide +kernel
theorem dX4_priceBy_99 : decode cX4_priceBy 99 = .ok (.istore 4, 2) := by decide +kernel
theorem dX4_priceBy_101 : decode cX4_priceBy 101 = .ok (.iload 5, 2) := by decide +kernel
theorem dX4_priceBy_103 : decode cX4_priceBy 103 = .ok (.iconst 1, 1) := by decide +kernel
theorem dX4_priceBy_104 : decode cX4_priceBy 104 = .ok (.iconst 4, 1) := by decide +kernel
theorem dX4_priceBy_105 : decode cX4_priceBy 105 = .ok (.iload 8, 2) := by decide +kernel
theorem dX4_priceBy_107 : decode cX4_priceBy 107 = .ok (.imul, 1) := by decide +kernel
theorem dX4_priceBy_108 : decode cX4_priceBy 108 = .ok (.ishl, 1) := by decide +kernel
theorem dX4_priceBy_109 : decode cX4_priceBy 109 = .ok (.iadd, 1) := by decide +kernel
theorem dX4_priceBy_110 : decode cX4_priceBy 110 = .ok (.istore 5, 2) := by decide +kernel
theorem dX4_priceBy_112 : decode cX4_priceBy 112 = .ok (.iinc 6 1, 3) := by decide +kernel
theorem dX4_priceBy_115 : decode cX4_priceBy 115 = .ok (.goto (-87), 3) := by decide +kernel
theorem dX4_priceBy_118 : decode cX4_priceBy 118 = .ok (.iload 4, 2) := by decide +kernel
theorem dX4_priceBy_120 : decode cX4_priceBy 120 = .ok (.ireturn, 1) := by decide +kernel
theorem dX4_priceOfName_0 : decode cX4_priceOfName 0 = .ok (.iload_n 1, 1) := by decide +kernel
theorem dX4_priceOfName_1 : decode cX4_priceOfName 1 = .ok (.iload_n 2, 1) := by decide +kernel
theorem dX4_priceOfName_2 : decode cX4_priceOfName 2 = .ok (.isub, 1) := by decide +kernel
theorem dX4_priceOfName_3 : decode cX4_priceOfName 3 = .ok (.invokestatic 71, 3) := by decide +kernel
theorem dX4_priceOfName_6 : decode cX4_priceOfName 6 = .ok (.istore_n 3, 1) := by decide +kernel
theorem dX4_priceOfName_7 : decode cX4_priceOfName 7 = .ok (.iload_n 0, 1) := by decide +kernel
theorem dX4_priceOfName_8 : decode cX4_priceOfName 8 = .ok (.iconst 2, 1) := by decide +kernel
theorem dX4_priceOfName_9 : decode cX4_priceOfName 9 = .ok (.if_icmp .ne 7, 3) := by decide +kernel
theorem dX4_priceOfName_12 : decode cX4_priceOfName 12 = .ok (.iload_n 1, 1) := by decide +kernel
theorem dX4_priceOfName_13 : decode cX4_priceOfName 13 = .ok (.ifCond .gt 12, 3) := by decide +kernel
theorem dX4_priceOfName_16 : decode cX4_priceOfName 16 = .ok (.iload_n 0, 1) := by decide +kernel
theorem dX4_priceOfName_17 : decode cX4_priceOfName 17 = .ok (.iconst 3, 1) := by decide +kernel
theorem dX4_priceOfName_18 : decode cX4_priceOfName 18 = .ok (.if_icmp .ne 11, 3) := by decide +kernel
theorem dX4_priceOfName_21 : decode cX4_priceOfName 21 = .ok (.iload_n 1, 1) := by decide +kernel
theorem dX4_priceOfName_22 : decode cX4_priceOfName 22 = .ok (.ifCond .ge 7, 3) := by decide +kernel
theorem dX4_priceOfName_25 : decode cX4_priceOfName 25 = .ok (.iconst 1, 1) := by decide +kernel
theorem dX4_priceOfName_26 : decode cX4_priceOfName 26 = .ok (.goto 4, 3) := by decide +kernel
theorem dX4_priceOfName_29 : decode cX4_priceOfName 29 = .ok (.iconst 0, 1) := by decide +kernel
theorem dX4_priceOfName_30 : decode cX4_priceOfName 30 = .ok (.istore 4, 2) := by decide +kernel
theorem dX4_priceOfName_32 : decode cX4_priceOfName 32 = .ok (.iload 4, 2) := by decide +kernel
theorem dX4_priceOfName_34 : decode cX4_priceOfName 34 = .ok (.ifCond .eq 7, 3) := by decide +kernel
theorem dX4_priceOfName_37 : decode cX4_priceOfName 37 = .ok (.iload_n 3, 1) := by decide +kernel
theorem dX4_priceOfName_38 : decode cX4_priceOfName 38 = .ok (.goto 6, 3) := by decide +kernel
theorem dX4_priceOfName_41 : decode cX4_priceOfName 41 = .ok (.iconst 2, 1) := by decide +kernel
theorem dX4_priceOfName_42 : decode cX4_priceOfName 42 = .ok (.iload_n 3, 1) := by decide +kernel
theorem dX4_priceOfName_43 : decode cX4_priceOfName 43 = .ok (.imul, 1) := by decide +kernel
theorem dX4_priceOfName_44 : decode cX4_priceOfName 44 = .ok (.ireturn, 1) := by decide +kernel
theorem dX4_priceOfStep_0 : decode cX4_priceOfStep 0 = .ok (.iload_n 2, 1) := by decide +kernel
theorem dX4_priceOfStep_1 : decode cX4_priceOfStep 1 = .ok (.iload_n 3, 1) := by decide +kernel
theorem dX4_priceOfStep_2 : decode cX4_priceOfStep 2 = .ok (.isub, 1) := by decide +kernel
theorem dX4_priceOfStep_3 : decode cX4_priceOfStep 3 = .ok (.invokestatic 71, 3) := by decide +kernel
theorem dX4_priceOfStep_6 : decode cX4_priceOfStep 6 = .ok (.istore 4, 2) := by decide +kernel
theorem dX4_priceOfStep_8 : decode cX4_priceOfStep 8 = .ok (.aload_n 0, 1) := by decide +kernel
theorem dX4_priceOfStep_9 : decode cX4_priceOfStep 9 = .ok (.getfield 28, 3) := by decide +kernel
theorem dX4_priceOfStep_12 : decode cX4_priceOfStep 12 = .ok (.iload_n 1, 1) := by decide +kernel
theorem dX4_priceOfStep_13 : decode cX4_priceOfStep 13 = .ok (.iaload, 1) := by decide +kernel
theorem dX4_priceOfStep_14 : decode cX4_priceOfStep 14 = .ok (.iconst 1, 1) := by decide +kernel
theorem dX4_priceOfStep_15 : decode cX4_priceOfStep 15 = .ok (.if_icmp .ne 10, 3) := by decide +kernel
theorem dX4_priceOfStep_18 : decode cX4_priceOfStep 18 = .ok (.iload 4, 2) := by decide +kernel
theorem dX4_priceOfStep_20 : decode cX4_priceOfStep 20 = .ok (.iconst 2, 1) := by decide +kernel
theorem dX4_priceOfStep_21 : decode cX4_priceOfStep 21 = .ok (.idiv, 1) := by decide +kernel
theorem dX4_priceOfStep_22 : decode cX4_priceOfStep 22 = .ok (.goto 5, 3) := by decide +kernel
theorem dX4_priceOfStep_25 : decode cX4_priceOfStep 25 = .ok (.iload 4, 2) := by decide +kernel
theorem dX4_priceOfStep_27 : decode cX4_priceOfStep 27 = .ok (.ireturn, 1) := by decide +kernel
theorem dX5_init_0 : decode cX5_init 0 = .ok (.aload_n 0, 1) := by decide +kernel
theorem dX5_init_1 : decode cX5_init 1 = .ok (.invokespecial 1, 3) := by decide +kernel
theorem dX5_init_4 : decode cX5_init 4 = .ok (.aload_n 0, 1) := by decide +kernel
theorem dX5_init_5 : decode cX5_init 5 = .ok (.sipush 320, 3) := by decide +kernel
theorem dX5_init_8 : decode cX5_init 8 = .ok (.newarray .int, 2) := by decide +kernel
theorem dX5_init_10 : decode cX5_init 10 = .ok (.putfield 9, 3) := by decide +kernel
theorem dX5_init_13 : decode cX5_init 13 = .ok (.aload_n 0, 1) := by decide +kernel
theorem dX5_init_14 : decode cX5_init 14 = .ok (.bipush 8, 2) := by decide +kernel
theorem dX5_init_16 : decode cX5_init 16 = .ok (.newarray .int, 2) := by decide +kernel
theorem dX5_init_18 : decode cX5_init 18 = .ok (.putfield 13, 3) := by decide +kernel
theorem dX5_init_21 : decode cX5_init 21 = .ok (.aload_n 0, 1) := by decide +kernel
theorem dX5_init_22 : decode cX5_init 22 = .ok (.bipush 8, 2) := by decide +kernel
theorem dX5_init_24 : decode cX5_init 24 = .ok (.newarray .int, 2) := by decide +kernel
theorem dX5_init_26 : decode cX5_init 26 = .ok (.putfield 16, 3) := by decide +kernel
theorem dX5_init_29 : decode cX5_init 29 = .ok (.iconst 0, 1) := by decide +kernel
theorem dX5_init_30 : decode cX5_init 30 = .ok (.istore_n 1, 1) := by decide +kernel
theorem dX5_init_31 : decode cX5_init 31 = .ok (.iload_n 1, 1) := by decide +kernel
theorem dX5_init_32 : decode cX5_init 32 = .ok (.bipush 8, 2) := by decide +kernel
theorem dX5_init_34 : decode cX5_init 34 = .ok (.if_icmp .ge 16, 3) := by decide +kernel
theorem dX5_init_37 : decode cX5_init 37 = .ok (.aload_n 0, 1) := by decide +kernel
theorem dX5_init_38 : decode cX5_init 38 = .ok (.getfield 16, 3) := by decide +kernel
theorem dX5_init_41 : decode cX5_init 41 = .ok (.iload_n 1, 1) := by decide +kernel
theorem dX5_init_42 : decode cX5_init 42 = .ok (.iconst (-1), 1) := by decide +kernel
theorem dX5_init_43 : decode cX5_init 43 = .ok (.iastore, 1) := by decide +kernel
theorem dX5_init_44 : decode cX5_init 44 = .ok (.iinc 1 1, 3) := by decide +kernel
theorem dX5_init_47 : decode cX5_init 47 = .ok (.goto (-16), 3) := by decide +kernel
theorem dX5_init_50 : decode cX5_init 50 = .ok (.return_, 1) := by decide +kernel
theorem dX5_isRow_0 : decode cX5_isRow 0 = .ok (.iload_n 0, 1) := by decide +kernel
theorem dX5_isRow_1 : decode cX5_isRow 1 = .ok (.ifCond .lt 13, 3) := by decide +kernel
theorem dX5_isRow_4 : decode cX5_isRow 4 = .ok (.iload_n 0, 1) := by decide +kernel
theorem dX5_isRow_5 : decode cX5_isRow 5 = .ok (.bipush 8, 2) := by decide +kernel
theorem dX5_isRow_7 : decode cX5_isRow 7 = .ok (.if_icmp .ge 7, 3) := by decide +kernel
theorem dX5_isRow_10 : decode cX5_isRow 10 = .ok (.iconst 1, 1) := by decide +kernel
theorem dX5_isRow_11 : decode cX5_isRow 11 = .ok (.goto 4, 3) := by decide +kernel
theorem dX5_isRow_14 : decode cX5_isRow 14 = .ok (.iconst 0, 1) := by decide +kernel
theorem dX5_isRow_15 : decode cX5_isRow 15 = .ok (.ireturn, 1) := by decide +kernel
theorem dX5_isMissing_0 : decode cX5_isMissing 0 = .ok (.aload_n 0, 1) := by decide +kernel
theorem dX5_isMissing_1 : decode cX5_isMissing 1 = .ok (.getfield 16, 3) := by decide +kernel
theorem dX5_isMissing_4 : decode cX5_isMissing 4 = .ok (.iload_n 1, 1) := by decide +kernel
theorem dX5_isMissing_5 : decode cX5_isMissing 5 = .ok (.iaload, 1) := by decide +kernel
theorem dX5_isMissing_6 : decode cX5_isMissing 6 = .ok (.iconst (-1), 1) := by decide +kernel
theorem dX5_isMissing_7 : decode cX5_isMissing 7 = .ok (.if_icmp .ne 7, 3) := by decide +kernel
theorem dX5_isMissing_10 : decode cX5_isMissing 10 = .ok (.iconst 1, 1) := by decide +kernel
theorem dX5_isMissing_11 : decode cX5_isMissing 11 = .ok (.goto 4, 3) := by decide +kernel
theorem dX5_isMissing_14 : decode cX5_isMissing 14 = .ok (.iconst 0, 1) := by decide +kernel
theorem dX5_isMissing_15 : decode cX5_isMissing 15 = .ok (.ireturn, 1) := by decide +kernel
theorem dX5_ofOneLane_0 : decode cX5_ofOneLane 0 = .ok (.aload_n 0, 1) := by decide +kernel
theorem dX5_ofOneLane_1 : decode cX5_ofOneLane 1 = .ok (.getfield 13, 3) := by decide +kernel
theorem dX5_ofOneLane_4 : decode cX5_ofOneLane 4 = .ok (.iload_n 1, 1) := by decide +kernel
theorem dX5_ofOneLane_5 : decode cX5_ofOneLane 5 = .ok (.iaload, 1) := by decide +kernel
theorem dX5_ofOneLane_6 : decode cX5_ofOneLane 6 = .ok (.aload_n 0, 1) := by decide +kernel
theorem dX5_ofOneLane_7 : decode cX5_ofOneLane 7 = .ok (.getfield 13, 3) := by decide +kernel
theorem dX5_ofOneLane_10 : decode cX5_ofOneLane 10 = .ok (.iload_n 2, 1) := by decide +kernel
theorem dX5_ofOneLane_11 : decode cX5_ofOneLane 11 = .ok (.iaload, 1) := by decide +kernel
theorem dX5_ofOneLane_12 : decode cX5_ofOneLane 12 = .ok (.if_icmp .ne 7, 3) := by decide +kernel
theorem dX5_ofOneLane_15 : decode cX5_ofOneLane 15 = .ok (.iconst 1, 1) := by decide +kernel
theorem dX5_ofOneLane_16 : decode cX5_ofOneLane 16 = .ok (.goto 4, 3) := by decide +kernel
theorem dX5_ofOneLane_19 : decode cX5_ofOneLane 19 = .ok (.iconst 0, 1) := by decide +kernel
theorem dX5_ofOneLane_20 : decode cX5_ofOneLane 20 = .ok (.ireturn, 1) := by decide +kernel
theorem dX5_holds_0 : decode cX5_holds 0 = .ok (.iload_n 2, 1) := by decide +kernel
theorem dX5_holds_1 : decode cX5_holds 1 = .ok (.ifCond .lt 23, 3) := by decide +kernel
theorem dX5_holds_4 : decode cX5_holds 4 = .ok (.iload_n 3, 1) := by decide +kernel
theorem dX5_holds_5 : decode cX5_holds 5 = .ok (.ifCond .lt 19, 3) := by decide +kernel
theorem dX5_holds_8 : decode cX5_holds 8 = .ok (.iload_n 3, 1) := by decide +kernel
theorem dX5_holds_9 : decode cX5_holds 9 = .ok (.aload_n 0, 1) := by decide +kernel
theorem dX5_holds_10 : decode cX5_holds 10 = .ok (.getfield 16, 3) := by decide +kernel
theorem dX5_holds_13 : decode cX5_holds 13 = .ok (.iload_n 1, 1) := by decide +kernel
theorem dX5_holds_14 : decode cX5_holds 14 = .ok (.iaload, 1) := by decide +kernel
theorem dX5_holds_15 : decode cX5_holds 15 = .ok (.iload_n 2, 1) := by decide +kernel
theorem dX5_holds_16 : decode cX5_holds 16 = .ok (.isub, 1) := by decide +kernel
theorem dX5_holds_17 : decode cX5_holds 17 = .ok (.if_icmp .gt 7, 3) := by decide +kernel
theorem dX5_holds_20 : decode cX5_holds 20 = .ok (.iconst 1, 1) := by decide +kernel
theorem dX5_holds_21 : decode cX5_holds 21 = .ok (.goto 4, 3) := by decide +kernel
theorem dX5_holds_24 : decode cX5_holds 24 = .ok (.iconst 0, 1) := by decide +kernel
theorem dX5_holds_25 : decode cX5_holds 25 = .ok (.ireturn, 1) := by decide +kernel
theorem dX5_make_0 : decode cX5_make 0 = .ok (.aload_n 0, 1) := by decide +kernel
theorem dX5_make_1 : decode cX5_make 1 = .ok (.getfield 13, 3) := by decide +kernel
theorem dX5_make_4 : decode cX5_make 4 = .ok (.iload_n 1, 1) := by decide +kernel
theorem dX5_make_5 : decode cX5_make 5 = .ok (.iload_n 2, 1) := by decide +kernel
theorem dX5_make_6 : decode cX5_make 6 = .ok (.iastore, 1) := by decide +kernel
theorem dX5_make_7 : decode cX5_make 7 = .ok (.aload_n 0, 1) := by decide +kernel
theorem dX5_make_8 : decode cX5_make 8 = .ok (.getfield 16, 3) := by decide +kernel
theorem dX5_make_11 : decode cX5_make 11 = .ok (.iload_n 1, 1) := by decide +kernel
theorem dX5_make_12 : decode cX5_make 12 = .ok (.iload_n 3, 1) := by decide +kernel
theorem dX5_make_13 : decode cX5_make 13 = .ok (.iastore, 1) := by decide +kernel
theorem dX5_make_14 : decode cX5_make 14 = .ok (.iconst 0, 1) := by decide +kernel
theorem dX5_make_15 : decode cX5_make 15 = .ok (.istore 4, 2) := by decide +kernel
theorem dX5_make_17 : decode cX5_make 17 = .ok (.iload 4, 2) := by decide +kernel
theorem dX5_make_19 : decode cX5_make 19 = .ok (.iload_n 3, 1) := by decide +kernel
theorem dX5_make_20 : decode cX5_make 20 = .ok (.if_icmp .ge 22, 3) := by decide +kernel
theorem dX5_make_23 : decode cX5_make 23 = .ok (.aload_n 0, 1) := by decide +kernel
theorem dX5_make_24 : decode cX5_make 24 = .ok (.getfield 9, 3) := by decide +kernel
theorem dX5_make_27 : decode cX5_make 27 = .ok (.iload_n 1, 1) := by decide +kernel
theorem dX5_make_28 : decode cX5_make 28 = .ok (.bipush 40, 2) := by decide +kernel
theorem dX5_make_30 : decode cX5_make 30 = .ok (.imul, 1) := by decide +kernel
theorem dX5_make_31 : decode cX5_make 31 = .ok (.iload 4, 2) := by decide +kernel
theorem dX5_make_33 : decode cX5_make 33 = .ok (.iadd, 1) := by decide +kernel
theorem dX5_make_34 : decode cX5_make 34 = .ok (.iconst 0, 1) := by decide +kernel
theorem dX5_make_35 : decode cX5_make 35 = .ok (.iastore, 1) := by decide +kernel
theorem dX5_make_36 : decode cX5_make 36 = .ok (.iinc 4 1, 3) := by decide +kernel
theorem dX5_make_39 : decode cX5_make 39 = .ok (.goto (-22), 3) := by decide +kernel
theorem dX5_make_42 : decode cX5_make 42 = .ok (.return_, 1) := by decide +kernel
theorem dX5_put_0 : decode cX5_put 0 = .ok (.iload_n 3, 1) := by decide +kernel
theorem dX5_put_1 : decode cX5_put 1 = .ok (.istore 4, 2) := by decide +kernel
theorem dX5_put_3 : decode cX5_put 3 = .ok (.aload_n 0, 1) := by decide +kernel
theorem dX5_put_4 : decode cX5_put 4 = .ok (.getfield 13, 3) := by decide +kernel
theorem dX5_put_7 : decode cX5_put 7 = .ok (.iload_n 1, 1) := by decide +kernel
theorem dX5_put_8 : decode cX5_put 8 = .ok (.iaload, 1) := by decide +kernel
theorem dX5_put_9 : decode cX5_put 9 = .ok (.ifCond .ne 10, 3) := by decide +kernel
theorem dX5_put_12 : decode cX5_put 12 = .ok (.iload_n 3, 1) := by decide +kernel
theorem dX5_put_13 : decode cX5_put 13 = .ok (.i2b, 1) := by decide +kernel
theorem dX5_put_14 : decode cX5_put 14 = .ok (.istore 4, 2) := by decide +kernel
theorem dX5_put_16 : decode cX5_put 16 = .ok (.goto 17, 3) := by decide +kernel
theorem dX5_put_19 : decode cX5_put 19 = .ok (.aload_n 0, 1) := by decide +kernel
theorem dX5_put_20 : decode cX5_put 20 = .ok (.getfield 13, 3) := by decide +kernel
theorem dX5_put_23 : decode cX5_put 23 = .ok (.iload_n 1, 1) := by decide +kernel
theorem dX5_put_24 : decode cX5_put 24 = .ok (.iaload, 1) := by decide +kernel
theorem dX5_put_25 : decode cX5_put 25 = .ok (.iconst 1, 1) := by decide +kernel
theorem dX5_put_26 : decode cX5_put 26 = .ok (.if_icmp .ne 7, 3) := by decide +kernel
theorem dX5_put_29 : decode cX5_put 29 = .ok (.iload_n 3, 1) := by decide +kernel
theorem dX5_put_30 : decode cX5_put 30 = .ok (.i2s, 1) := by decide +kernel
theorem dX5_put_31 : decode cX5_put 31 = .ok (.istore 4, 2) := by decide +kernel
theorem dX5_put_33 : decode cX5_put 33 = .ok (.aload_n 0, 1) := by decide +kernel
theorem dX5_put_34 : decode cX5_put 34 = .ok (.getfield 9, 3) := by decide +kernel
theorem dX5_put_37 : decode cX5_put 37 = .ok (.iload_n 1, 1) := by decide +kernel
theorem dX5_put_38 : decode cX5_put 38 = .ok (.bipush 40, 2) := by decide +kernel
theorem dX5_put_40 : decode cX5_put 40 = .ok (.imul, 1) := by decide +kernel
theorem dX5_put_41 : decode cX5_put 41 = .ok (.iload_n 2, 1) := by decide +kernel
theorem dX5_put_42 : decode cX5_put 42 = .ok (.iadd, 1) := by decide +kernel
theorem dX5_put_43 : decode cX5_put 43 = .ok (.iload 4, 2) := by decide +kernel
theorem dX5_put_45 : decode cX5_put 45 = .ok (.iastore, 1) := by decide +kernel
theorem dX5_put_46 : decode cX5_put 46 = .ok (.iload 4, 2) := by decide +kernel
theorem dX5_put_48 : decode cX5_put 48 = .ok (.ireturn, 1) := by decide +kernel
theorem dX5_itemOf_0 : decode cX5_itemOf 0 = .ok (.aload_n 0, 1) := by decide +kernel
theorem dX5_itemOf_1 : decode cX5_itemOf 1 = .ok (.getfield 9, 3) := by decide +kernel
theorem dX5_itemOf_4 : decode cX5_itemOf 4 = .ok (.iload_n 1, 1) := by decide +kernel
theorem dX5_itemOf_5 : decode cX5_itemOf 5 = .ok (.bipush 40, 2) := by decide +kernel
theorem dX5_itemOf_7 : decode cX5_itemOf 7 = .ok (.imul, 1) := by decide +kernel
theorem dX5_itemOf_8 : decode cX5_itemOf 8 = .ok (.iload_n 2, 1) := by decide +kernel
theorem dX5_itemOf_9 : decode cX5_itemOf 9 = .ok (.iadd, 1) := by decide +kernel
theorem dX5_itemOf_10 : decode cX5_itemOf 10 = .ok (.iaload, 1) := by decide +kernel
theorem dX5_itemOf_11 : decode cX5_itemOf 11 = .ok (.ireturn, 1) := by decide +kernel
theorem dX5_carry_0 : decode cX5_carry 0 = .ok (.aload_n 0, 1) := by decide +kernel
theorem dX5_carry_1 : decode cX5_carry 1 = .ok (.getfield 9, 3) := by decide +kernel
theorem dX5_carry_4 : decode cX5_carry 4 = .ok (.iload_n 1, 1) := by decide +kernel
theorem dX5_carry_5 : decode cX5_carry 5 = .ok (.bipush 40, 2) := by decide +kernel
theorem dX5_carry_7 : decode cX5_carry 7 = .ok (.imul, 1) := by decide +kernel
theorem dX5_carry_8 : decode cX5_carry 8 = .ok (.iload_n 2, 1) := by decide +kernel
theorem dX5_carry_9 : decode cX5_carry 9 = .ok (.iadd, 1) := by decide +kernel
theorem dX5_carry_10 : decode cX5_carry 10 = .ok (.aload_n 0, 1) := by decide +kernel
theorem dX5_carry_11 : decode cX5_carry 11 = .ok (.getfield 9, 3) := by decide +kernel
theorem dX5_carry_14 : decode cX5_carry 14 = .ok (.iload_n 3, 1) := by decide +kernel
theorem dX5_carry_15 : decode cX5_carry 15 = .ok (.bipush 40, 2) := by decide +kernel
theorem dX5_carry_17 : decode cX5_carry 17 = .ok (.imul, 1) := by decide +kernel
theorem dX5_carry_18 : decode cX5_carry 18 = .ok (.iload 4, 2) := by decide +kernel
theorem dX5_carry_20 : decode cX5_carry 20 = .ok (.iadd, 1) := by decide +kernel
theorem dX5_carry_21 : decode cX5_carry 21 = .ok (.iload 5, 2) := by decide +kernel
theorem dX5_carry_23 : decode cX5_carry 23 = .ok (.invokestatic 19, 3) := by decide +kernel
theorem dX5_carry_26 : decode cX5_carry 26 = .ok (.return_, 1) := by decide +kernel
theorem dX5_lose_0 : decode cX5_lose 0 = .ok (.aload_n 0, 1) := by decide +kernel
theorem dX5_lose_1 : decode cX5_lose 1 = .ok (.getfield 16, 3) := by decide +kernel
theorem dX5_lose_4 : decode cX5_lose 4 = .ok (.iload_n 1, 1) := by decide +kernel
theorem dX5_lose_5 : decode cX5_lose 5 = .ok (.iaload, 1) := by decide +kernel
theorem dX5_lose_6 : decode cX5_lose 6 = .ok (.istore_n 2, 1) := by decide +kernel
theorem dX5_lose_7 : decode cX5_lose 7 = .ok (.aload_n 0, 1) := by decide +kernel
theorem dX5_lose_8 : decode cX5_lose 8 = .ok (.getfield 16, 3) := by decide +kernel
theorem dX5_lose_11 : decode cX5_lose 11 = .ok (.iload_n 1, 1) := by decide +kernel
theorem dX5_lose_12 : decode cX5_lose 12 = .ok (.iconst (-1), 1) := by decide +kernel
theorem dX5_lose_13 : decode cX5_lose 13 = .ok (.iastore, 1) := by decide +kernel
theorem dX5_lose_14 : decode cX5_lose 14 = .ok (.iload_n 2, 1) := by decide +kernel
theorem dX5_lose_15 : decode cX5_lose 15 = .ok (.ireturn, 1) := by decide +kernel
theorem dX5_howMany_0 : decode cX5_howMany 0 = .ok (.iconst 0, 1) := by decide +kernel
theorem dX5_howMany_1 : decode cX5_howMany 1 = .ok (.istore_n 1, 1) := by decide +kernel
theorem dX5_howMany_2 : decode cX5_howMany 2 = .ok (.iconst 0, 1) := by decide +kernel
theorem dX5_howMany_3 : decode cX5_howMany 3 = .ok (.istore_n 2, 1) := by decide +kernel
theorem dX5_howMany_4 : decode cX5_howMany 4 = .ok (.iload_n 2, 1) := by decide +kernel
theorem dX5_howMany_5 : decode cX5_howMany 5 = .ok (.bipush 8, 2) := by decide +kernel
theorem dX5_howMany_7 : decode cX5_howMany 7 = .ok (.if_icmp .ge 27, 3) := by decide +kernel
theorem dX5_howMany_10 : decode cX5_howMany 10 = .ok (.iload_n 1, 1) := by decide +kernel
theorem dX5_howMany_11 : decode cX5_howMany 11 = .ok (.aload_n 0, 1) := by decide +kernel
theorem dX5_howMany_12 : decode cX5_howMany 12 = .ok (.getfield 16, 3) := by decide +kernel
theorem dX5_howMany_15 : decode cX5_howMany 15 = .ok (.iload_n 2, 1) := by decide +kernel
theorem dX5_howMany_16 : decode cX5_howMany 16 = .ok (.iaload, 1) := by decide +kernel
theorem dX5_howMany_17 : decode cX5_howMany 17 = .ok (.iconst (-1), 1) := by decide +kernel
theorem dX5_howMany_18 : decode cX5_howMany 18 = .ok (.if_icmp .ne 7, 3) := by decide +kernel
theorem dX5_howMany_21 : decode cX5_howMany 21 = .ok (.iconst 0, 1) := by decide +kernel
theorem dX5_howMany_22 : decode cX5_howMany 22 = .ok (.goto 4, 3) := by decide +kernel
theorem dX5_howMany_25 : decode cX5_howMany 25 = .ok (.iconst 1, 1) := by decide +kernel
theorem dX5_howMany_26 : decode cX5_howMany 26 = .ok (.iadd, 1) := by decide +kernel
theorem dX5_howMany_27 : decode cX5_howMany 27 = .ok (.istore_n 1, 1) := by decide +kernel
theorem dX5_howMany_28 : decode cX5_howMany 28 = .ok (.iinc 2 1, 3) := by decide +kernel
theorem dX5_howMany_31 : decode cX5_howMany 31 = .ok (.goto (-27), 3) := by decide +kernel
theorem dX5_howMany_34 : decode cX5_howMany 34 = .ok (.iload_n 1, 1) := by decide +kernel
theorem dX5_howMany_35 : decode cX5_howMany 35 = .ok (.ireturn, 1) := by decide +kernel
theorem dX6_init_0 : decode cX6_init 0 = .ok (.aload_n 0, 1) := by decide +kernel
theorem dX6_init_1 : decode cX6_init 1 = .ok (.invokespecial 3, 3) := by decide +kernel
theorem dX6_init_4 : decode cX6_init 4 = .ok (.aload_n 0, 1) := by decide +kernel
theorem dX6_init_5 : decode cX6_init 5 = .ok (.sipush 130, 3) := by decide +kernel
theorem dX6_init_8 : decode cX6_init 8 = .ok (.newarray .int, 2) := by decide +kernel
theorem dX6_init_10 : decode cX6_init 10 = .ok (.putfield 11, 3) := by decide +kernel
theorem dX6_init_13 : decode cX6_init 13 = .ok (.aload_n 0, 1) := by decide +kernel
theorem dX6_init_14 : decode cX6_init 14 = .ok (.iconst 0, 1) := by decide +kernel
theorem dX6_init_15 : decode cX6_init 15 = .ok (.putfield 15, 3) := by decide +kernel
theorem dX6_init_18 : decode cX6_init 18 = .ok (.aload_n 0, 1) := by decide +kernel
theorem dX6_init_19 : decode cX6_init 19 = .ok (.iconst 0, 1) := by decide +kernel
theorem dX6_init_20 : decode cX6_init 20 = .ok (.putfield 19, 3) := by decide +kernel
theorem dX6_init_23 : decode cX6_init 23 = .ok (.return_, 1) := by decide +kernel
theorem dX6_put_0 : decode cX6_put 0 = .ok (.aload_n 0, 1) := by decide +kernel
theorem dX6_put_1 : decode cX6_put 1 = .ok (.getfield 15, 3) := by decide +kernel
theorem dX6_put_4 : decode cX6_put 4 = .ok (.sipush 130, 3) := by decide +kernel
theorem dX6_put_7 : decode cX6_put 7 = .ok (.if_icmp .ge 23, 3) := by decide +kernel
theorem dX6_put_10 : decode cX6_put 10 = .ok (.aload_n 0, 1) := by decide +kernel
theorem dX6_put_11 : decode cX6_put 11 = .ok (.getfield 11, 3) := by decide +kernel
theorem dX6_put_14 : decode cX6_put 14 = .ok (.aload_n 0, 1) := by decide +kernel
theorem dX6_put_15 : decode cX6_put 15 = .ok (.getfield 15, 3) := by decide +kernel
theorem dX6_put_18 : decode cX6_put 18 = .ok (.iload_n 1, 1) := by decide +kernel
theorem dX6_put_19 : decode cX6_put 19 = .ok (.iastore, 1) := by decide +kernel
theorem dX6_put_20 : decode cX6_put 20 = .ok (.aload_n 0, 1) := by decide +kernel
theorem dX6_put_21 : decode cX6_put 21 = .ok (.dup, 1) := by decide +kernel
theorem dX6_put_22 : decode cX6_put 22 = .ok (.getfield 15, 3) := by decide +kernel
theorem dX6_put_25 : decode cX6_put 25 = .ok (.iconst 1, 1) := by decide +kernel
theorem dX6_put_26 : decode cX6_put 26 = .ok (.iadd, 1) := by decide +kernel
theorem dX6_put_27 : decode cX6_put 27 = .ok (.putfield 15, 3) := by decide +kernel
theorem dX6_put_30 : decode cX6_put 30 = .ok (.return_, 1) := by decide +kernel
theorem dX6_readInto_0 : decode cX6_readInto 0 = .ok (.aload_n 1, 1) := by decide +kernel
theorem dX6_readInto_1 : decode cX6_readInto 1 = .ok (.invokevirtual 22, 3) := by decide +kernel
theorem dX6_readInto_4 : decode cX6_readInto 4 = .ok (.aload_n 0, 1) := by decide +kernel
theorem dX6_readInto_5 : decode cX6_readInto 5 = .ok (.iconst 0, 1) := by decide +kernel
theorem dX6_readInto_6 : decode cX6_readInto 6 = .ok (.putfield 19, 3) := by decide +kernel
theorem dX6_readInto_9 : decode cX6_readInto 9 = .ok (.aload_n 0, 1) := by decide +kernel
theorem dX6_readInto_10 : decode cX6_readInto 10 = .ok (.iconst 0, 1) := by decide +kernel
theorem dX6_readInto_11 : decode cX6_readInto 11 = .ok (.putfield 27, 3) := by decide +kernel
theorem dX6_readInto_14 : decode cX6_readInto 14 = .ok (.aload_n 0, 1) := by decide +kernel
theorem dX6_readInto_15 : decode cX6_readInto 15 = .ok (.iconst 1, 1) := by decide +kernel
theorem dX6_readInto_16 : decode cX6_readInto 16 = .ok (.putfield 30, 3) := by decide +kernel
theorem dX6_readInto_19 : decode cX6_readInto 19 = .ok (.aload_n 0, 1) := by decide +kernel
theorem dX6_readInto_20 : decode cX6_readInto 20 = .ok (.iconst 1, 1) := by decide +kernel
theorem dX6_readInto_21 : decode cX6_readInto 21 = .ok (.putfield 34, 3) := by decide +kernel
theorem dX6_readInto_24 : decode cX6_readInto 24 = .ok (.iconst 0, 1) := by decide +kernel
theorem dX6_readInto_25 : decode cX6_readInto 25 = .ok (.istore_n 2, 1) := by decide +kernel
theorem dX6_readInto_26 : decode cX6_readInto 26 = .ok (.iload_n 2, 1) := by decide +kernel
theorem dX6_readInto_27 : decode cX6_readInto 27 = .ok (.sipush 130, 3) := by decide +kernel
theorem dX6_readInto_30 : decode cX6_readInto 30 = .ok (.if_icmp .gt 61, 3) := by decide +kernel
theorem dX6_readInto_33 : decode cX6_readInto 33 = .ok (.aload_n 0, 1) := by decide +kernel
theorem dX6_readInto_34 : decode cX6_readInto 34 = .ok (.invokevirtual 37, 3) := by decide +kernel
theorem dX6_readInto_37 : decode cX6_readInto 37 = .ok (.aload_n 0, 1) := by decide +kernel
theorem dX6_readInto_38 : decode cX6_readInto 38 = .ok (.getfield 40, 3) := by decide +kernel
theorem dX6_readInto_41 : decode cX6_readInto 41 = .ok (.iconst (-1), 1) := by decide +kernel
theorem dX6_readInto_42 : decode cX6_readInto 42 = .ok (.if_icmp .ne 18, 3) := by decide +kernel
theorem dX6_readInto_45 : decode cX6_readInto 45 = .ok (.aload_n 0, 1) := by decide +kernel
theorem dX6_readInto_46 : decode cX6_readInto 46 = .ok (.getfield 27, 3) := by decide +kernel
theorem dX6_readInto_49 : decode cX6_readInto 49 = .ok (.bipush 6, 2) := by decide +kernel
theorem dX6_readInto_51 : decode cX6_readInto 51 = .ok (.if_icmp .ne 7, 3) := by decide +kernel
theorem dX6_readInto_54 : decode cX6_readInto 54 = .ok (.iconst 0, 1) := by decide +kernel
theorem dX6_readInto_55 : decode cX6_readInto 55 = .ok (.goto 4, 3) := by decide +kernel
theorem dX6_readInto_58 : decode cX6_readInto 58 = .ok (.iconst 1, 1) := by decide +kernel
theorem dX6_readInto_59 : decode cX6_readInto 59 = .ok (.ireturn, 1) := by decide +kernel
theorem dX6_readInto_60 : decode cX6_readInto 60 = .ok (.aload_n 0, 1) := by decide +kernel
theorem dX6_readInto_61 : decode cX6_readInto 61 = .ok (.aload_n 1, 1) := by decide +kernel
theorem dX6_readInto_62 : decode cX6_readInto 62 = .ok (.invokevirtual 43, 3) := by decide +kernel
theorem dX6_readInto_65 : decode cX6_readInto 65 = .ok (.istore_n 3, 1) := by decide +kernel
theorem dX6_readInto_66 : decode cX6_readInto 66 = .ok (.iload_n 3, 1) := by decide +kernel
theorem dX6_readInto_67 : decode cX6_readInto 67 = .ok (.ifCond .eq 5, 3) := by decide +kernel
theorem dX6_readInto_70 : decode cX6_readInto 70 = .ok (.iload_n 3, 1) := by decide +kernel
theorem dX6_readInto_71 : decode cX6_readInto 71 = .ok (.ireturn, 1) := by decide +kernel
theorem dX6_readInto_72 : decode cX6_readInto 72 = .ok (.aload_n 0, 1) := by decide +kernel
theorem dX6_readInto_73 : decode cX6_readInto 73 = .ok (.dup, 1) := by decide +kernel
theorem dX6_readInto_74 : decode cX6_readInto 74 = .ok (.getfield 19, 3) := by decide +kernel
theorem dX6_readInto_77 : decode cX6_readInto 77 = .ok (.aload_n 0, 1) := by decide +kernel
theorem dX6_readInto_78 : decode cX6_readInto 78 = .ok (.getfield 47, 3) := by decide +kernel
theorem dX6_readInto_81 : decode cX6_readInto 81 = .ok (.iadd, 1) := by decide +kernel
theorem dX6_readInto_82 : decode cX6_readInto 82 = .ok (.putfield 19, 3) := by decide +kernel
theorem dX6_readInto_85 : decode cX6_readInto 85 = .ok (.iinc 2 1, 3) := by decide +kernel
theorem dX6_readInto_88 : decode cX6_readInto 88 = .ok (.goto (-62), 3) := by decide +kernel
theorem dX6_readInto_91 : decode cX6_readInto 91 = .ok (.iconst 1, 1) := by decide +kernel
theorem dX6_readInto_92 : decode cX6_readInto 92 = .ok (.ireturn, 1) := by decide +kernel
theorem dX6_takeToken_0 : decode cX6_takeToken 0 = .ok (.aload_n 0, 1) := by decide +kernel
theorem dX6_takeToken_1 : decode cX6_takeToken 1 = .ok (.iconst 1, 1) := by decide +kernel
theorem dX6_takeToken_2 : decode cX6_takeToken 2 = .ok (.putfield 47, 3) := by decide +kernel
theorem dX6_takeToken_5 : decode cX6_takeToken 5 = .ok (.aload_n 0, 1) := by decide +kernel
theorem dX6_takeToken_6 : decode cX6_takeToken 6 = .ok (.getfield 19, 3) := by decide +kernel
theorem dX6_takeToken_9 : decode cX6_takeToken 9 = .ok (.aload_n 0, 1) := by decide +kernel
theorem dX6_takeToken_10 : decode cX6_takeToken 10 = .ok (.getfield 15, 3) := by decide +kernel
theorem dX6_takeToken_13 : decode cX6_takeToken 13 = .ok (.if_icmp .lt 11, 3) := by decide +kernel
theorem dX6_takeToken_16 : decode cX6_takeToken 16 = .ok (.aload_n 0, 1) := by decide +kernel
theorem dX6_takeToken_17 : decode cX6_takeToken 17 = .ok (.iconst (-1), 1) := by decide +kernel
theorem dX6_takeToken_18 : decode cX6_takeToken 18 = .ok (.putfield 40, 3) := by decide +kernel
theorem dX6_takeToken_21 : decode cX6_takeToken 21 = .ok (.goto 75, 3) := by decide +kernel
theorem dX6_takeToken_24 : decode cX6_takeToken 24 = .ok (.aload_n 0, 1) := by decide +kernel
theorem dX6_takeToken_25 : decode cX6_takeToken 25 = .ok (.aload_n 0, 1) := by decide +kernel
theorem dX6_takeToken_26 : decode cX6_takeToken 26 = .ok (.getfield 19, 3) := by decide +kernel
theorem dX6_takeToken_29 : decode cX6_takeToken 29 = .ok (.invokevirtual 50, 3) := by decide +kernel
theorem dX6_takeToken_32 : decode cX6_takeToken 32 = .ok (.ifCond .eq 10, 3) := by decide +kernel
theorem dX6_takeToken_35 : decode cX6_takeToken 35 = .ok (.aload_n 0, 1) := by decide +kernel
theorem dX6_takeToken_36 : decode cX6_takeToken 36 = .ok (.invokevirtual 54, 3) := by decide +kernel
theorem dX6_takeToken_39 : decode cX6_takeToken 39 = .ok (.goto 57, 3) := by decide +kernel
theorem dX6_takeToken_42 : decode cX6_takeToken 42 = .ok (.aload_n 0, 1) := by decide +kernel
theorem dX6_takeToken_43 : decode cX6_takeToken 43 = .ok (.getfield 11, 3) := by decide +kernel
theorem dX6_takeToken_46 : decode cX6_takeToken 46 = .ok (.aload_n 0, 1) := by decide +kernel
theorem dX6_takeToken_47 : decode cX6_takeToken 47 = .ok (.getfield 19, 3) := by decide +kernel
theorem dX6_takeToken_50 : decode cX6_takeToken 50 = .ok (.iaload, 1) := by decide +kernel
theorem dX6_takeToken_51 : decode cX6_takeToken 51 = .ok (.istore_n 1, 1) := by decide +kernel
theorem dX6_takeToken_52 : decode cX6_takeToken 52 = .ok (.iload_n 1, 1) := by decide +kernel
theorem dX6_takeToken_53 : decode cX6_takeToken 53 = .ok (.bipush 97, 2) := by decide +kernel
theorem dX6_takeToken_55 : decode cX6_takeToken 55 = .ok (.if_icmp .lt 9, 3) := by decide +kernel
theorem dX6_takeToken_58 : decode cX6_takeToken 58 = .ok (.iload_n 1, 1) := by decide +kernel
theorem dX6_takeToken_59 : decode cX6_takeToken 59 = .ok (.bipush 122, 2) := by decide +kernel
theorem dX6_takeToken_61 : decode cX6_takeToken 61 = .ok (.if_icmp .le 15, 3) := by decide +kernel
theorem dX6_takeToken_64 : decode cX6_takeToken 64 = .ok (.iload_n 1, 1) := by decide +kernel
theorem dX6_takeToken_65 : decode cX6_takeToken 65 = .ok (.bipush 44, 2) := by decide +kernel
theorem dX6_takeToken_67 : decode cX6_takeToken 67 = .ok (.if_icmp .eq 9, 3) := by decide +kernel
theorem dX6_takeToken_70 : decode cX6_takeToken 70 = .ok (.iload_n 1, 1) := by decide +kernel
theorem dX6_takeToken_71 : decode cX6_takeToken 71 = .ok (.bipush 59, 2) := by decide +kernel
theorem dX6_takeToken_73 : decode cX6_takeToken 73 = .ok (.if_icmp .ne 7, 3) := by decide +kernel
theorem dX6_takeToken_76 : decode cX6_takeToken 76 = .ok (.iconst 1, 1) := by decide +kernel
theorem dX6_takeToken_77 : decode cX6_takeToken 77 = .ok (.goto 4, 3) := by decide +kernel
theorem dX6_takeToken_80 : decode cX6_takeToken 80 = .ok (.iconst 0, 1) := by decide +kernel
theorem dX6_takeToken_81 : decode cX6_takeToken 81 = .ok (.istore_n 2, 1) := by decide +kernel
theorem dX6_takeToken_82 : decode cX6_takeToken 82 = .ok (.aload_n 0, 1) := by decide +kernel
theorem dX6_takeToken_83 : decode cX6_takeToken 83 = .ok (.iload_n 2, 1) := by decide +kernel
theorem dX6_takeToken_84 : decode cX6_takeToken 84 = .ok (.ifCond .eq 7, 3) := by decide +kernel
theorem dX6_takeToken_87 : decode cX6_takeToken 87 = .ok (.iload_n 1, 1) := by decide +kernel
theorem dX6_takeToken_88 : decode cX6_takeToken 88 = .ok (.goto 5, 3) := by decide +kernel
theorem dX6_takeToken_91 : decode cX6_takeToken 91 = .ok (.bipush (-2), 2) := by decide +kernel
theorem dX6_takeToken_93 : decode cX6_takeToken 93 = .ok (.putfield 40, 3) := by decide +kernel
theorem dX6_takeToken_96 : decode cX6_takeToken 96 = .ok (.return_, 1) := by decide +kernel
theorem dX6_takeNumber_0 : decode cX6_takeNumber 0 = .ok (.aload_n 0, 1) := by decide +kernel
theorem dX6_takeNumber_1 : decode cX6_takeNumber 1 = .ok (.aload_n 0, 1) := by decide +kernel
theorem dX6_takeNumber_2 : decode cX6_takeNumber 2 = .ok (.getfield 11, 3) := by decide +kernel
theorem dX6_takeNumber_5 : decode cX6_takeNumber 5 = .ok (.aload_n 0, 1) := by decide +kernel
theorem dX6_takeNumber_6 : decode cX6_takeNumber 6 = .ok (.getfield 19, 3) := by decide +kernel
theorem dX6_takeNumber_9 : decode cX6_takeNumber 9 = .ok (.iaload, 1) := by decide +kernel
theorem dX6_takeNumber_10 : decode cX6_takeNumber 10 = .ok (.bipush 48, 2) := by decide +kernel
theorem dX6_takeNumber_12 : decode cX6_takeNumber 12 = .ok (.isub, 1) := by decide +kernel
theorem dX6_takeNumber_13 : decode cX6_takeNumber 13 = .ok (.putfield 57, 3) := by decide +kernel
theorem dX6_takeNumber_16 : decode cX6_takeNumber 16 = .ok (.aload_n 0, 1) := by decide +kernel
theorem dX6_takeNumber_17 : decode cX6_takeNumber 17 = .ok (.bipush (-3), 2) := by decide +kernel
theorem dX6_takeNumber_19 : decode cX6_takeNumber 19 = .ok (.putfield 40, 3) := by decide +kernel
theorem dX6_takeNumber_22 : decode cX6_takeNumber 22 = .ok (.aload_n 0, 1) := by decide +kernel
theorem dX6_takeNumber_23 : decode cX6_takeNumber 23 = .ok (.aload_n 0, 1) := by decide +kernel
theorem dX6_takeNumber_24 : decode cX6_takeNumber 24 = .ok (.getfield 19, 3) := by decide +kernel
theorem dX6_takeNumber_27 : decode cX6_takeNumber 27 = .ok (.iconst 1, 1) := by decide +kernel
theorem dX6_takeNumber_28 : decode cX6_takeNumber 28 = .ok (.iadd, 1) := by decide +kernel
theorem dX6_takeNumber_29 : decode cX6_takeNumber 29 = .ok (.invokevirtual 50, 3) := by decide +kernel
theorem dX6_takeNumber_32 : decode cX6_takeNumber 32 = .ok (.ifCond .eq 53, 3) := by decide +kernel
theorem dX6_takeNumber_35 : decode cX6_takeNumber 35 = .ok (.aload_n 0, 1) := by decide +kernel
theorem dX6_takeNumber_36 : decode cX6_takeNumber 36 = .ok (.iconst 2, 1) := by decide +kernel
theorem dX6_takeNumber_37 : decode cX6_takeNumber 37 = .ok (.putfield 47, 3) := by decide +kernel
theorem dX6_takeNumber_40 : decode cX6_takeNumber 40 = .ok (.aload_n 0, 1) := by decide +kernel
theorem dX6_takeNumber_41 : decode cX6_takeNumber 41 = .ok (.bipush 10, 2) := by decide +kernel
theorem dX6_takeNumber_43 : decode cX6_takeNumber 43 = .ok (.aload_n 0, 1) := by decide +kernel
theorem dX6_takeNumber_44 : decode cX6_takeNumber 44 = .ok (.getfield 57, 3) := by decide +kernel
theorem dX6_takeNumber_47 : decode cX6_takeNumber 47 = .ok (.imul, 1) := by decide +kernel
theorem dX6_takeNumber_48 : decode cX6_takeNumber 48 = .ok (.aload_n 0, 1) := by decide +kernel
theorem dX6_takeNumber_49 : decode cX6_takeNumber 49 = .ok (.getfield 11, 3) := by decide +kernel
theorem dX6_takeNumber_52 : decode cX6_takeNumber 52 = .ok (.aload_n 0, 1) := by decide +kernel
theorem dX6_takeNumber_53 : decode cX6_takeNumber 53 = .ok (.getfield 19, 3) := by decide +kernel
theorem dX6_takeNumber_56 : decode cX6_takeNumber 56 = .ok (.iconst 1, 1) := by decide +kernel
theorem dX6_takeNumber_57 : decode cX6_takeNumber 57 = .ok (.iadd, 1) := by decide +kernel
theorem dX6_takeNumber_58 : decode cX6_takeNumber 58 = .ok (.iaload, 1) := by decide +kernel
theorem dX6_takeNumber_59 : decode cX6_takeNumber 59 = .ok (.iadd, 1) := by decide +kernel
theorem dX6_takeNumber_60 : decode cX6_takeNumber 60 = .ok (.bipush 48, 2) := by decide +kernel
theorem dX6_takeNumber_62 : decode cX6_takeNumber 62 = .ok (.isub, 1) := by decide +kernel
theorem dX6_takeNumber_63 : decode cX6_takeNumber 63 = .ok (.putfield 57, 3) := by decide +kernel
theorem dX6_takeNumber_66 : decode cX6_takeNumber 66 = .ok (.aload_n 0, 1) := by decide +kernel
theorem dX6_takeNumber_67 : decode cX6_takeNumber 67 = .ok (.aload_n 0, 1) := by decide +kernel
theorem dX6_takeNumber_68 : decode cX6_takeNumber 68 = .ok (.getfield 19, 3) := by decide +kernel
theorem dX6_takeNumber_71 : decode cX6_takeNumber 71 = .ok (.iconst 2, 1) := by decide +kernel
theorem dX6_takeNumber_72 : decode cX6_takeNumber 72 = .ok (.iadd, 1) := by decide +kernel
theorem dX6_takeNumber_73 : decode cX6_takeNumber 73 = .ok (.invokevirtual 50, 3) := by decide +kernel
theorem dX6_takeNumber_76 : decode cX6_takeNumber 76 = .ok (.ifCond .eq 9, 3) := by decide +kernel
theorem dX6_takeNumber_79 : decode cX6_takeNumber 79 = .ok (.aload_n 0, 1) := by decide +kernel
theorem dX6_takeNumber_80 : decode cX6_takeNumber 80 = .ok (.bipush (-2), 2) := by decide +kernel
theorem dX6_takeNumber_82 : decode cX6_takeNumber 82 = .ok (.putfield 40, 3) := by decide +kernel
theorem dX6_takeNumber_85 : decode cX6_takeNumber 85 = .ok (.return_, 1) := by decide +kernel
theorem dX6_isFigure_0 : decode cX6_isFigure 0 = .ok (.iload_n 1, 1) := by decide +kernel
theorem dX6_isFigure_1 : decode cX6_isFigure 1 = .ok (.aload_n 0, 1) := by decide +kernel
theorem dX6_isFigure_2 : decode cX6_isFigure 2 = .ok (.getfield 15, 3) := by decide +kernel
theorem dX6_isFigure_5 : decode cX6_isFigure 5 = .ok (.if_icmp .ge 36, 3) := by decide +kernel
theorem dX6_isFigure_8 : decode cX6_isFigure 8 = .ok (.iload_n 1, 1) := by decide +kernel
theorem dX6_isFigure_9 : decode cX6_isFigure 9 = .ok (.sipush 130, 3) := by decide +kernel
theorem dX6_isFigure_12 : decode cX6_isFigure 12 = .ok (.if_icmp .ge 29, 3) := by decide +kernel
theorem dX6_isFigure_15 : decode cX6_isFigure 15 = .ok (.aload_n 0, 1) := by decide +kernel
theorem dX6_isFigure_16 : decode cX6_isFigure 16 = .ok (.getfield 11, 3) := by decide +kernel
theorem dX6_isFigure_19 : decode cX6_isFigure 19 = .ok (.iload_n 1, 1) := by decide +kernel
theorem dX6_isFigure_20 : decode cX6_isFigure 20 = .ok (.iaload, 1) := by decide +kernel
theorem dX6_isFigure_21 : decode cX6_isFigure 21 = .ok (.bipush 48, 2) := by decide +kernel
theorem dX6_isFigure_23 : decode cX6_isFigure 23 = .ok (.if_icmp .lt 18, 3) := by decide +kernel
theorem dX6_isFigure_26 : decode cX6_isFigure 26 = .ok (.aload_n 0, 1) := by decide +kernel
theorem dX6_isFigure_27 : decode cX6_isFigure 27 = .ok (.getfield 11, 3) := by decide +kernel
theorem dX6_isFigure_30 : decode cX6_isFigure 30 = .ok (.iload_n 1, 1) := by decide +kernel
theorem dX6_isFigure_31 : decode cX6_isFigure 31 = .ok (.iaload, 1) := by decide +kernel
theorem dX6_isFigure_32 : decode cX6_isFigure 32 = .ok (.bipush 57, 2) := by decide +kernel
theorem dX6_isFigure_34 : decode cX6_isFigure 34 = .ok (.if_icmp .gt 7, 3) := by decide +kernel
theorem dX6_isFigure_37 : decode cX6_isFigure 37 = .ok (.iconst 1, 1) := by decide +kernel
theorem dX6_isFigure_38 : decode cX6_isFigure 38 = .ok (.goto 4, 3) := by decide +kernel
theorem dX6_isFigure_41 : decode cX6_isFigure 41 = .ok (.iconst 0, 1) := by decide +kernel
theorem dX6_isFigure_42 : decode cX6_isFigure 42 = .ok (.ireturn, 1) := by decide +kernel
theorem dX6_step_0 : decode cX6_step 0 = .ok (.aload_n 0, 1) := by decide +kernel
theorem dX6_step_1 : decode cX6_step 1 = .ok (.getfield 27, 3) := by decide +kernel
theorem dX6_step_4 : decode cX6_step 4 = .ok (.tableswitch 107 0 9 #[56, 64, 70, 107, 95, 101, 107, 78, 107, 87], 56) := by decide +kernel
theorem dX6_step_60 : decode cX6_step 60 = .ok (.aload_n 0, 1) := by decide +kernel
theorem dX6_step_61 : decode cX6_step 61 = .ok (.bipush 107, 2) := by decide +kernel
theorem dX6_step_63 : decode cX6_step 63 = .ok (.iconst 1, 1) := by decide +kernel
theorem dX6_step_64 : decode cX6_step 64 = .ok (.invokevirtual 60, 3) := by decide +kernel
theorem dX6_step_67 : decode cX6_step 67 = .ok (.ireturn, 1) := by decide +kernel
theorem dX6_step_68 : decode cX6_step 68 = .ok (.aload_n 0, 1) := by decide +kernel
theorem dX6_step_69 : decode cX6_step 69 = .ok (.aload_n 1, 1) := by decide +kernel
theorem dX6_step_70 : decode cX6_step 70 = .ok (.invokevirtual 64, 3) := by decide +kernel
theorem dX6_step_73 : decode cX6_step 73 = .ok (.ireturn, 1) := by decide +kernel
theorem dX6_step_74 : decode cX6_step 74 = .ok (.aload_n 0, 1) := by decide +kernel
theorem dX6_step_75 : decode cX6_step 75 = .ok (.bipush 59, 2) := by decide +kernel
theorem dX6_step_77 : decode cX6_step 77 = .ok (.iconst 3, 1) := by decide +kernel
theorem dX6_step_78 : decode cX6_step 78 = .ok (.invokevirtual 60, 3) := by decide +kernel
theorem dX6_step_81 : decode cX6_step 81 = .ok (.ireturn, 1) := by decide +kernel
theorem dX6_step_82 : decode cX6_step 82 = .ok (.aload_n 0, 1) := by decide +kernel
theorem dX6_step_83 : decode cX6_step 83 = .ok (.bipush 59, 2) := by decide +kernel
theorem dX6_step_85 : decode cX6_step 85 = .ok (.bipush 8, 2) := by decide +kernel
theorem dX6_step_87 : decode cX6_step 87 = .ok (.invokevirtual 60, 3) := by decide +kernel
theorem dX6_step_90 : decode cX6_step 90 = .ok (.ireturn, 1) := by decide +kernel
theorem dX6_step_91 : decode cX6_step 91 = .ok (.aload_n 0, 1) := by decide +kernel
theorem dX6_step_92 : decode cX6_step 92 = .ok (.bipush 59, 2) := by decide +kernel
theorem dX6_step_94 : decode cX6_step 94 = .ok (.iconst 3, 1) := by decide +kernel
theorem dX6_step_95 : decode cX6_step 95 = .ok (.invokevirtual 60, 3) := by decide +kernel
theorem dX6_step_98 : decode cX6_step 98 = .ok (.ireturn, 1) := by decide +kernel
theorem dX6_step_99 : decode cX6_step 99 = .ok (.aload_n 0, 1) := by decide +kernel
theorem dX6_step_100 : decode cX6_step 100 = .ok (.aload_n 1, 1) := by decide +kernel
theorem dX6_step_101 : decode cX6_step 101 = .ok (.invokevirtual 67, 3) := by decide +kernel
theorem dX6_step_104 : decode cX6_step 104 = .ok (.ireturn, 1) := by decide +kernel
theorem dX6_step_105 : decode cX6_step 105 = .ok (.aload_n 0, 1) := by decide +kernel
theorem dX6_step_106 : decode cX6_step 106 = .ok (.aload_n 1, 1) := by decide +kernel
theorem dX6_step_107 : decode cX6_step 107 = .ok (.invokevirtual 70, 3) := by decide +kernel
theorem dX6_step_110 : decode cX6_step 110 = .ok (.ireturn, 1) := by decide +kernel
theorem dX6_step_111 : decode cX6_step 111 = .ok (.aload_n 0, 1) := by decide +kernel
theorem dX6_step_112 : decode cX6_step 112 = .ok (.aload_n 1, 1) := by decide +kernel
theorem dX6_step_113 : decode cX6_step 113 = .ok (.invokevirtual 73, 3) := by decide +kernel
theorem dX6_step_116 : decode cX6_step 116 = .ok (.ireturn, 1) := by decide +kernel
theorem dX6_want_0 : decode cX6_want 0 = .ok (.aload_n 0, 1) := by decide +kernel
theorem dX6_want_1 : decode cX6_want 1 = .ok (.getfield 40, 3) := by decide +kernel
theorem dX6_want_4 : decode cX6_want 4 = .ok (.iload_n 1, 1) := by decide +kernel
theorem dX6_want_5 : decode cX6_want 5 = .ok (.if_icmp .eq 5, 3) := by decide +kernel
theorem dX6_want_8 : decode cX6_want 8 = .ok (.iconst 1, 1) := by decide +kernel
theorem dX6_want_9 : decode cX6_want 9 = .ok (.ireturn, 1) := by decide +kernel
theorem dX6_want_10 : decode cX6_want 10 = .ok (.aload_n 0, 1) := by decide +kernel
theorem dX6_want_11 : decode cX6_want 11 = .ok (.iload_n 2, 1) := by decide +kernel
theorem dX6_want_12 : decode cX6_want 12 = .ok (.putfield 27, 3) := by decide +kernel
theorem dX6_want_15 : decode cX6_want 15 = .ok (.iconst 0, 1) := by decide +kernel
theorem dX6_want_16 : decode cX6_want 16 = .ok (.ireturn, 1) := by decide +kernel
theorem dX6_takeSignature_0 : decode cX6_takeSignature 0 = .ok (.aload_n 0, 1) := by decide +kernel
theorem dX6_takeSignature_1 : decode cX6_takeSignature 1 = .ok (.getfield 40, 3) := by decide +kernel
theorem dX6_takeSignature_4 : decode cX6_takeSignature 4 = .ok (.bipush (-3), 2) := by decide +kernel
theorem dX6_takeSignature_6 : decode cX6_takeSignature 6 = .ok (.if_icmp .eq 5, 3) := by decide +kernel
theorem dX6_takeSignature_9 : decode cX6_takeSignature 9 = .ok (.iconst 1, 1) := by decide +kernel
theorem dX6_takeSignature_10 : decode cX6_takeSignature 10 = .ok (.ireturn, 1) := by decide +kernel
theorem dX6_takeSignature_11 : decode cX6_takeSignature 11 = .ok (.aload_n 0, 1) := by decide +kernel
theorem dX6_takeSignature_12 : decode cX6_takeSignature 12 = .ok (.getfield 57, 3) := by decide +kernel
theorem dX6_takeSignature_15 : decode cX6_takeSignature 15 = .ok (.invokestatic 76, 3) := by decide +kernel
theorem dX6_takeSignature_18 : decode cX6_takeSignature 18 = .ok (.ifCond .ne 5, 3) := by decide +kernel
theorem dX6_takeSignature_21 : decode cX6_takeSignature 21 = .ok (.iconst 2, 1) := by decide +kernel
theorem dX6_takeSignature_22 : decode cX6_takeSignature 22 = .ok (.ireturn, 1) := by decide +kernel
theorem dX6_takeSignature_23 : decode cX6_takeSignature 23 = .ok (.aload_n 1, 1) := by decide +kernel
theorem dX6_takeSignature_24 : decode cX6_takeSignature 24 = .ok (.aload_n 0, 1) := by decide +kernel
theorem dX6_takeSignature_25 : decode cX6_takeSignature 25 = .ok (.getfield 57, 3) := by decide +kernel
theorem dX6_takeSignature_28 : decode cX6_takeSignature 28 = .ok (.putfield 79, 3) := by decide +kernel
theorem dX6_takeSignature_31 : decode cX6_takeSignature 31 = .ok (.aload_n 0, 1) := by decide +kernel
theorem dX6_takeSignature_32 : decode cX6_takeSignature 32 = .ok (.iconst 2, 1) := by decide +kernel
theorem dX6_takeSignature_33 : decode cX6_takeSignature 33 = .ok (.putfield 27, 3) := by decide +kernel
theorem dX6_takeSignature_36 : decode cX6_takeSignature 36 = .ok (.iconst 0, 1) := by decide +kernel
theorem dX6_takeSignature_37 : decode cX6_takeSignature 37 = .ok (.ireturn, 1) := by decide +kernel
theorem dX6_takeLetter_0 : decode cX6_takeLetter 0 = .ok (.aload_n 0, 1) := by decide +kernel
theorem dX6_takeLetter_1 : decode cX6_takeLetter 1 = .ok (.getfield 40, 3) := by decide +kernel
theorem dX6_takeLetter_4 : decode cX6_takeLetter 4 = .ok (.bipush 98, 2) := by decide +kernel
theorem dX6_takeLetter_6 : decode cX6_takeLetter 6 = .ok (.if_icmp .ne 25, 3) := by decide +kernel
theorem dX6_takeLetter_9 : decode cX6_takeLetter 9 = .ok (.aload_n 0, 1) := by decide +kernel
theorem dX6_takeLetter_10 : decode cX6_takeLetter 10 = .ok (.getfield 27, 3) := by decide +kernel
theorem dX6_takeLetter_13 : decode cX6_takeLetter 13 = .ok (.bipush 6, 2) := by decide +kernel
theorem dX6_takeLetter_15 : decode cX6_takeLetter 15 = .ok (.if_icmp .ne 16, 3) := by decide +kernel
theorem dX6_takeLetter_18 : decode cX6_takeLetter 18 = .ok (.aload_n 0, 1) := by decide +kernel
theorem dX6_takeLetter_19 : decode cX6_takeLetter 19 = .ok (.iconst 1, 1) := by decide +kernel
theorem dX6_takeLetter_20 : decode cX6_takeLetter 20 = .ok (.putfield 30, 3) := by decide +kernel
theorem dX6_takeLetter_23 : decode cX6_takeLetter 23 = .ok (.aload_n 0, 1) := by decide +kernel
theorem dX6_takeLetter_24 : decode cX6_takeLetter 24 = .ok (.bipush 7, 2) := by decide +kernel
theorem dX6_takeLetter_26 : decode cX6_takeLetter 26 = .ok (.putfield 27, 3) := by decide +kernel
theorem dX6_takeLetter_29 : decode cX6_takeLetter 29 = .ok (.iconst 0, 1) := by decide +kernel
theorem dX6_takeLetter_30 : decode cX6_takeLetter 30 = .ok (.ireturn, 1) := by decide +kernel
theorem dX6_takeLetter_31 : decode cX6_takeLetter 31 = .ok (.aload_n 0, 1) := by decide +kernel
theorem dX6_takeLetter_32 : decode cX6_takeLetter 32 = .ok (.getfield 40, 3) := by decide +kernel
theorem dX6_takeLetter_35 : decode cX6_takeLetter 35 = .ok (.bipush 102, 2) := by decide +kernel
theorem dX6_takeLetter_37 : decode cX6_takeLetter 37 = .ok (.if_icmp .ne 24, 3) := by decide +kernel
theorem dX6_takeLetter_40 : decode cX6_takeLetter 40 = .ok (.aload_n 0, 1) := by decide +kernel
theorem dX6_takeLetter_41 : decode cX6_takeLetter 41 = .ok (.getfield 27, 3) := by decide +kernel
theorem dX6_takeLetter_44 : decode cX6_takeLetter 44 = .ok (.iconst 3, 1) := by decide +kernel
theorem dX6_takeLetter_45 : decode cX6_takeLetter 45 = .ok (.if_icmp .eq 16, 3) := by decide +kernel
theorem dX6_takeLetter_48 : decode cX6_takeLetter 48 = .ok (.aload_n 0, 1) := by decide +kernel
theorem dX6_takeLetter_49 : decode cX6_takeLetter 49 = .ok (.iconst 1, 1) := by decide +kernel
theorem dX6_takeLetter_50 : decode cX6_takeLetter 50 = .ok (.putfield 34, 3) := by decide +kernel
theorem dX6_takeLetter_53 : decode cX6_takeLetter 53 = .ok (.aload_n 0, 1) := by decide +kernel
theorem dX6_takeLetter_54 : decode cX6_takeLetter 54 = .ok (.bipush 9, 2) := by decide +kernel
theorem dX6_takeLetter_56 : decode cX6_takeLetter 56 = .ok (.putfield 27, 3) := by decide +kernel
theorem dX6_takeLetter_59 : decode cX6_takeLetter 59 = .ok (.iconst 0, 1) := by decide +kernel
theorem dX6_takeLetter_60 : decode cX6_takeLetter 60 = .ok (.ireturn, 1) := by decide +kernel
theorem dX6_takeLetter_61 : decode cX6_takeLetter 61 = .ok (.aload_n 0, 1) := by decide +kernel
theorem dX6_takeLetter_62 : decode cX6_takeLetter 62 = .ok (.aload_n 1, 1) := by decide +kernel
theorem dX6_takeLetter_63 : decode cX6_takeLetter 63 = .ok (.invokevirtual 82, 3) := by decide +kernel
theorem dX6_takeLetter_66 : decode cX6_takeLetter 66 = .ok (.ireturn, 1) := by decide +kernel
theorem dX6_takeSort_0 : decode cX6_takeSort 0 = .ok (.aload_n 0, 1) := by decide +kernel
theorem dX6_takeSort_1 : decode cX6_takeSort 1 = .ok (.getfield 40, 3) := by decide +kernel
theorem dX6_takeSort_4 : decode cX6_takeSort 4 = .ok (.invokestatic 85, 3) := by decide +kernel
theorem dX6_takeSort_7 : decode cX6_takeSort 7 = .ok (.istore_n 2, 1) := by decide +kernel
theorem dX6_takeSort_8 : decode cX6_takeSort 8 = .ok (.iload_n 2, 1) := by decide +kernel
theorem dX6_takeSort_9 : decode cX6_takeSort 9 = .ok (.ifCond .ne 5, 3) := by decide +kernel
theorem dX6_takeSort_12 : decode cX6_takeSort 12 = .ok (.iconst 1, 1) := by decide +kernel
theorem dX6_takeSort_13 : decode cX6_takeSort 13 = .ok (.ireturn, 1) := by decide +kernel
theorem dX6_takeSort_14 : decode cX6_takeSort 14 = .ok (.aload_n 1, 1) := by decide +kernel
theorem dX6_takeSort_15 : decode cX6_takeSort 15 = .ok (.getfield 89, 3) := by decide +kernel
theorem dX6_takeSort_18 : decode cX6_takeSort 18 = .ok (.bipush 10, 2) := by decide +kernel
theorem dX6_takeSort_20 : decode cX6_takeSort 20 = .ok (.if_icmp .lt 5, 3) := by decide +kernel
theorem dX6_takeSort_23 : decode cX6_takeSort 23 = .ok (.iconst 3, 1) := by decide +kernel
theorem dX6_takeSort_24 : decode cX6_takeSort 24 = .ok (.ireturn, 1) := by decide +kernel
theorem dX6_takeSort_25 : decode cX6_takeSort 25 = .ok (.aload_n 1, 1) := by decide +kernel
theorem dX6_takeSort_26 : decode cX6_takeSort 26 = .ok (.iload_n 2, 1) := by decide +kernel
theorem dX6_takeSort_27 : decode cX6_takeSort 27 = .ok (.aload_n 0, 1) := by decide +kernel
theorem dX6_takeSort_28 : decode cX6_takeSort 28 = .ok (.getfield 30, 3) := by decide +kernel
theorem dX6_takeSort_31 : decode cX6_takeSort 31 = .ok (.aload_n 0, 1) := by decide +kernel
theorem dX6_takeSort_32 : decode cX6_takeSort 32 = .ok (.getfield 34, 3) := by decide +kernel
theorem dX6_takeSort_35 : decode cX6_takeSort 35 = .ok (.invokevirtual 92, 3) := by decide +kernel
theorem dX6_takeSort_38 : decode cX6_takeSort 38 = .ok (.aload_n 0, 1) := by decide +kernel
theorem dX6_takeSort_39 : decode cX6_takeSort 39 = .ok (.iconst 0, 1) := by decide +kernel
theorem dX6_takeSort_40 : decode cX6_takeSort 40 = .ok (.putfield 30, 3) := by decide +kernel
theorem dX6_takeSort_43 : decode cX6_takeSort 43 = .ok (.aload_n 0, 1) := by decide +kernel
theorem dX6_takeSort_44 : decode cX6_takeSort 44 = .ok (.iconst 0, 1) := by decide +kernel
theorem dX6_takeSort_45 : decode cX6_takeSort 45 = .ok (.putfield 34, 3) := by decide +kernel
theorem dX6_takeSort_48 : decode cX6_takeSort 48 = .ok (.aload_n 0, 1) := by decide +kernel
theorem dX6_takeSort_49 : decode cX6_takeSort 49 = .ok (.iconst (-1), 1) := by decide +kernel
theorem dX6_takeSort_50 : decode cX6_takeSort 50 = .ok (.putfield 96, 3) := by decide +kernel
theorem dX6_takeSort_53 : decode cX6_takeSort 53 = .ok (.aload_n 0, 1) := by decide +kernel
theorem dX6_takeSort_54 : decode cX6_takeSort 54 = .ok (.iconst 4, 1) := by decide +kernel
theorem dX6_takeSort_55 : decode cX6_takeSort 55 = .ok (.putfield 27, 3) := by decide +kernel
theorem dX6_takeSort_58 : decode cX6_takeSort 58 = .ok (.iconst 0, 1) := by decide +kernel
theorem dX6_takeSort_59 : decode cX6_takeSort 59 = .ok (.ireturn, 1) := by decide +kernel
theorem dX6_kindOfSort_0 : decode cX6_kindOfSort 0 = .ok (.iload_n 0, 1) := by decide +kernel
theorem dX6_kindOfSort_1 : decode cX6_kindOfSort 1 = .ok (.lookupswitch 61 #[(99, 51), (104, 57), (108, 55), (111, 59), (114, 53)], 51) := by decide +kernel
theorem dX6_kindOfSort_52 : decode cX6_kindOfSort 52 = .ok (.iconst 1, 1) := by decide +kernel
theorem dX6_kindOfSort_53 : decode cX6_kindOfSort 53 = .ok (.ireturn, 1) := by decide +kernel
theorem dX6_kindOfSort_54 : decode cX6_kindOfSort 54 = .ok (.iconst 2, 1) := by decide +kernel
theorem dX6_kindOfSort_55 : decode cX6_kindOfSort 55 = .ok (.ireturn, 1) := by decide +kernel
theorem dX6_kindOfSort_56 : decode cX6_kindOfSort 56 = .ok (.iconst 3, 1) := by decide +kernel
theorem dX6_kindOfSort_57 : decode cX6_kindOfSort 57 = .ok (.ireturn, 1) := by decide +kernel
theorem dX6_kindOfSort_58 : decode cX6_kindOfSort 58 = .ok (.iconst 4, 1) := by decide +kernel
theorem dX6_kindOfSort_59 : decode cX6_kindOfSort 59 = .ok (.ireturn, 1) := by decide +kernel
theorem dX6_kindOfSort_60 : decode cX6_kindOfSort 60 = .ok (.iconst 5, 1) := by decide +kernel
theorem dX6_kindOfSort_61 : decode cX6_kindOfSort 61 = .ok (.ireturn, 1) := by decide +kernel
theorem dX6_kindOfSort_62 : decode cX6_kindOfSort 62 = .ok (.iconst 0, 1) := by decide +kernel
theorem dX6_kindOfSort_63 : decode cX6_kindOfSort 63 = .ok (.ireturn, 1) := by decide +kernel
theorem dX6_takeKey_0 : decode cX6_takeKey 0 = .ok (.aload_n 0, 1) := by decide +kernel
theorem dX6_takeKey_1 : decode cX6_takeKey 1 = .ok (.getfield 40, 3) := by decide +kernel
theorem dX6_takeKey_4 : decode cX6_takeKey 4 = .ok (.bipush (-3), 2) := by decide +kernel
theorem dX6_takeKey_6 : decode cX6_takeKey 6 = .ok (.if_icmp .eq 5, 3) := by decide +kernel
theorem dX6_takeKey_9 : decode cX6_takeKey 9 = .ok (.iconst 1, 1) := by decide +kernel
theorem dX6_takeKey_10 : decode cX6_takeKey 10 = .ok (.ireturn, 1) := by decide +kernel
theorem dX6_takeKey_11 : decode cX6_takeKey 11 = .ok (.aload_n 0, 1) := by decide +kernel
theorem dX6_takeKey_12 : decode cX6_takeKey 12 = .ok (.getfield 57, 3) := by decide +kernel
theorem dX6_takeKey_15 : decode cX6_takeKey 15 = .ok (.invokestatic 99, 3) := by decide +kernel
theorem dX6_takeKey_18 : decode cX6_takeKey 18 = .ok (.ifCond .eq 14, 3) := by decide +kernel
theorem dX6_takeKey_21 : decode cX6_takeKey 21 = .ok (.aload_n 0, 1) := by decide +kernel
theorem dX6_takeKey_22 : decode cX6_takeKey 22 = .ok (.getfield 57, 3) := by decide +kernel
theorem dX6_takeKey_25 : decode cX6_takeKey 25 = .ok (.aload_n 0, 1) := by decide +kernel
theorem dX6_takeKey_26 : decode cX6_takeKey 26 = .ok (.getfield 96, 3) := by decide +kernel
theorem dX6_takeKey_29 : decode cX6_takeKey 29 = .ok (.if_icmp .gt 5, 3) := by decide +kernel
theorem dX6_takeKey_32 : decode cX6_takeKey 32 = .ok (.iconst 2, 1) := by decide +kernel
theorem dX6_takeKey_33 : decode cX6_takeKey 33 = .ok (.ireturn, 1) := by decide +kernel
theorem dX6_takeKey_34 : decode cX6_takeKey 34 = .ok (.aload_n 1, 1) := by decide +kernel
theorem dX6_takeKey_35 : decode cX6_takeKey 35 = .ok (.aload_n 0, 1) := by decide +kernel
theorem dX6_takeKey_36 : decode cX6_takeKey 36 = .ok (.getfield 57, 3) := by decide +kernel
theorem dX6_takeKey_39 : decode cX6_takeKey 39 = .ok (.invokevirtual 102, 3) := by decide +kernel
theorem dX6_takeKey_42 : decode cX6_takeKey 42 = .ok (.aload_n 0, 1) := by decide +kernel
theorem dX6_takeKey_43 : decode cX6_takeKey 43 = .ok (.aload_n 0, 1) := by decide +kernel
theorem dX6_takeKey_44 : decode cX6_takeKey 44 = .ok (.getfield 57, 3) := by decide +kernel
theorem dX6_takeKey_47 : decode cX6_takeKey 47 = .ok (.putfield 96, 3) := by decide +kernel
theorem dX6_takeKey_50 : decode cX6_takeKey 50 = .ok (.aload_n 0, 1) := by decide +kernel
theorem dX6_takeKey_51 : decode cX6_takeKey 51 = .ok (.iconst 5, 1) := by decide +kernel
theorem dX6_takeKey_52 : decode cX6_takeKey 52 = .ok (.putfield 27, 3) := by decide +kernel
theorem dX6_takeKey_55 : decode cX6_takeKey 55 = .ok (.iconst 0, 1) := by decide +kernel
theorem dX6_takeKey_56 : decode cX6_takeKey 56 = .ok (.ireturn, 1) := by decide +kernel
theorem dX6_endKey_0 : decode cX6_endKey 0 = .ok (.aload_n 1, 1) := by decide +kernel
theorem dX6_endKey_1 : decode cX6_endKey 1 = .ok (.getfield 89, 3) := by decide +kernel
theorem dX6_endKey_4 : decode cX6_endKey 4 = .ok (.ifCond .le 21, 3) := by decide +kernel
theorem dX6_endKey_7 : decode cX6_endKey 7 = .ok (.aload_n 1, 1) := by decide +kernel
theorem dX6_endKey_8 : decode cX6_endKey 8 = .ok (.aload_n 1, 1) := by decide +kernel
theorem dX6_endKey_9 : decode cX6_endKey 9 = .ok (.getfield 89, 3) := by decide +kernel
theorem dX6_endKey_12 : decode cX6_endKey 12 = .ok (.iconst 1, 1) := by decide +kernel
theorem dX6_endKey_13 : decode cX6_endKey 13 = .ok (.isub, 1) := by decide +kernel
theorem dX6_endKey_14 : decode cX6_endKey 14 = .ok (.invokevirtual 106, 3) := by decide +kernel
theorem dX6_endKey_17 : decode cX6_endKey 17 = .ok (.iconst 4, 1) := by decide +kernel
theorem dX6_endKey_18 : decode cX6_endKey 18 = .ok (.if_icmp .ge 7, 3) := by decide +kernel
theorem dX6_endKey_21 : decode cX6_endKey 21 = .ok (.iconst 1, 1) := by decide +kernel
theorem dX6_endKey_22 : decode cX6_endKey 22 = .ok (.goto 4, 3) := by decide +kernel
theorem dX6_endKey_25 : decode cX6_endKey 25 = .ok (.iconst 0, 1) := by decide +kernel
theorem dX6_endKey_26 : decode cX6_endKey 26 = .ok (.istore_n 2, 1) := by decide +kernel
theorem dX6_endKey_27 : decode cX6_endKey 27 = .ok (.aload_n 0, 1) := by decide +kernel
theorem dX6_endKey_28 : decode cX6_endKey 28 = .ok (.getfield 40, 3) := by decide +kernel
theorem dX6_endKey_31 : decode cX6_endKey 31 = .ok (.bipush 44, 2) := by decide +kernel
theorem dX6_endKey_33 : decode cX6_endKey 33 = .ok (.if_icmp .ne 17, 3) := by decide +kernel
theorem dX6_endKey_36 : decode cX6_endKey 36 = .ok (.iload_n 2, 1) := by decide +kernel
theorem dX6_endKey_37 : decode cX6_endKey 37 = .ok (.ifCond .eq 13, 3) := by decide +kernel
theorem dX6_endKey_40 : decode cX6_endKey 40 = .ok (.aload_n 0, 1) := by decide +kernel
theorem dX6_endKey_41 : decode cX6_endKey 41 = .ok (.bipush 44, 2) := by decide +kernel
theorem dX6_endKey_43 : decode cX6_endKey 43 = .ok (.iconst 4, 1) := by decide +kernel
theorem dX6_endKey_44 : decode cX6_endKey 44 = .ok (.invokevirtual 60, 3) := by decide +kernel
theorem dX6_endKey_47 : decode cX6_endKey 47 = .ok (.goto 11, 3) := by decide +kernel
theorem dX6_endKey_50 : decode cX6_endKey 50 = .ok (.aload_n 0, 1) := by decide +kernel
theorem dX6_endKey_51 : decode cX6_endKey 51 = .ok (.bipush 59, 2) := by decide +kernel
theorem dX6_endKey_53 : decode cX6_endKey 53 = .ok (.bipush 6, 2) := by decide +kernel
theorem dX6_endKey_55 : decode cX6_endKey 55 = .ok (.invokevirtual 60, 3) := by decide +kernel
theorem dX6_endKey_58 : decode cX6_endKey 58 = .ok (.ireturn, 1) := by decide +kernel
theorem dJ9_floorDiv_7cf53_0 : decode cJ9_floorDiv_7cf53 0 = .ok (.iload_n 0, 1) := by decide +kernel
theorem dJ9_floorDiv_7cf53_1 : decode cJ9_floorDiv_7cf53 1 = .ok (.iload_n 1, 1) := by decide +kernel
theorem dJ9_floorDiv_7cf53_2 : decode cJ9_floorDiv_7cf53 2 = .ok (.idiv, 1) := by decide +kernel
theorem dJ9_floorDiv_7cf53_3 : decode cJ9_floorDiv_7cf53 3 = .ok (.istore_n 2, 1) := by decide +kernel
theorem dJ9_floorDiv_7cf53_4 : decode cJ9_floorDiv_7cf53 4 = .ok (.iload_n 0, 1) := by decide +kernel
theorem dJ9_floorDiv_7cf53_5 : decode cJ9_floorDiv_7cf53 5 = .ok (.iload_n 1, 1) := by decide +kernel
theorem dJ9_floorDiv_7cf53_6 : decode cJ9_floorDiv_7cf53 6 = .ok (.ixor, 1) := by decide +kernel
theorem dJ9_floorDiv_7cf53_7 : decode cJ9_floorDiv_7cf53 7 = .ok (.ifCond .ge 14, 3) := by decide +kernel
theorem dJ9_floorDiv_7cf53_10 : decode cJ9_floorDiv_7cf53 10 = .ok (.iload_n 2, 1) := by decide +kernel
theorem dJ9_floorDiv_7cf53_11 : decode cJ9_floorDiv_7cf53 11 = .ok (.iload_n 1, 1) := by decide +kernel
theorem dJ9_floorDiv_7cf53_12 : decode cJ9_floorDiv_7cf53 12 = .ok (.imul, 1) := by decide +kernel
theorem dJ9_floorDiv_7cf53_13 : decode cJ9_floorDiv_7cf53 13 = .ok (.iload_n 0, 1) := by decide +kernel
theorem dJ9_floorDiv_7cf53_14 : decode cJ9_floorDiv_7cf53 14 = .ok (.if_icmp .eq 7, 3) := by decide +kernel
theorem dJ9_floorDiv_7cf53_17 : decode cJ9_floorDiv_7cf53 17 = .ok (.iload_n 2, 1) := by decide +kernel
theorem dJ9_floorDiv_7cf53_18 : decode cJ9_floorDiv_7cf53 18 = .ok (.iconst 1, 1) := by decide +kernel
theorem dJ9_floorDiv_7cf53_19 : decode cJ9_floorDiv_7cf53 19 = .ok (.isub, 1) := by decide +kernel
theorem dJ9_floorDiv_7cf53_20 : decode cJ9_floorDiv_7cf53 20 = .ok (.ireturn, 1) := by decide +kernel
theorem dJ9_floorDiv_7cf53_21 : decode cJ9_floorDiv_7cf53 21 = .ok (.iload_n 2, 1) := by decide +kernel
theorem dJ9_floorDiv_7cf53_22 : decode cJ9_floorDiv_7cf53 22 = .ok (.ireturn, 1) := by decide +kernel
theorem dJ9_floorMod_7cf53_0 : decode cJ9_floorMod_7cf53 0 = .ok (.iload_n 0, 1) := by decide +kernel
theorem dJ9_floorMod_7cf53_1 : decode cJ9_floorMod_7cf53 1 = .ok (.iload_n 1, 1) := by decide +kernel
theorem dJ9_floorMod_7cf53_2 : decode cJ9_floorMod_7cf53 2 = .ok (.irem, 1) := by decide +kernel
theorem dJ9_floorMod_7cf53_3 : decode cJ9_floorMod_7cf53 3 = .ok (.istore_n 2, 1) := by decide +kernel
theorem dJ9_floorMod_7cf53_4 : decode cJ9_floorMod_7cf53 4 = .ok (.iload_n 0, 1) := by decide +kernel
theorem dJ9_floorMod_7cf53_5 : decode cJ9_floorMod_7cf53 5 = .ok (.iload_n 1, 1) := by decide +kernel
theorem dJ9_floorMod_7cf53_6 : decode cJ9_floorMod_7cf53 6 = .ok (.ixor, 1) := by decide +kernel
theorem dJ9_floorMod_7cf53_7 : decode cJ9_floorMod_7cf53 7 = .ok (.ifCond .ge 11, 3) := by decide +kernel
theorem dJ9_floorMod_7cf53_10 : decode cJ9_floorMod_7cf53 10 = .ok (.iload_n 2, 1) := by decide +kernel
theorem dJ9_floorMod_7cf53_11 : decode cJ9_floorMod_7cf53 11 = .ok (.ifCond .eq 7, 3) := by decide +kernel
theorem dJ9_floorMod_7cf53_14 : decode cJ9_floorMod_7cf53 14 = .ok (.iload_n 2, 1) := by decide +kernel
theorem dJ9_floorMod_7cf53_15 : decode cJ9_floorMod_7cf53 15 = .ok (.iload_n 1, 1) := by decide +kernel
theorem dJ9_floorMod_7cf53_16 : decode cJ9_floorMod_7cf53 16 = .ok (.iadd, 1) := by decide +kernel
theorem dJ9_floorMod_7cf53_17 : decode cJ9_floorMod_7cf53 17 = .ok (.ireturn, 1) := by decide +kernel
theorem dJ9_floorMod_7cf53_18 : decode cJ9_floorMod_7cf53 18 = .ok (.iload_n 2, 1) := by decide +kernel
theorem dJ9_floorMod_7cf53_19 : decode cJ9_floorMod_7cf53 19 = .ok (.ireturn, 1) := by decide +kernel
theorem dJ9_abs_0f7a4_0 : decode cJ9_abs_0f7a4 0 = .ok (.iload_n 0, 1) := by decide +kernel
theorem dJ9_abs_0f7a4_1 : decode cJ9_abs_0f7a4 1 = .ok (.ifCond .ge 8, 3) := by decide +kernel
theorem dJ9_abs_0f7a4_4 : decode cJ9_abs_0f7a4 4 = .ok (.iload_n 0, 1) := by decide +kernel
theorem dJ9_abs_0f7a4_5 : decode cJ9_abs_0f7a4 5 = .ok (.ineg, 1) := by decide +kernel
theorem dJ9_abs_0f7a4_6 : decode cJ9_abs_0f7a4 6 = .ok (.goto 4, 3) := by decide +kernel
theorem dJ9_abs_0f7a4_9 : decode cJ9_abs_0f7a4 9 = .ok (.iload_n 0, 1) := by decide +kernel
theorem dJ9_abs_0f7a4_10 : decode cJ9_abs_0f7a4 10 = .ok (.ireturn, 1) := by decide +kernel
theorem dJ9_min_f86c9_0 : decode cJ9_min_f86c9 0 = .ok (.lload_n 0, 1) := by decide +kernel
theorem dJ9_min_f86c9_1 : decode cJ9_min_f86c9 1 = .ok (.lload_n 2, 1) := by decide +kernel
theorem dJ9_min_f86c9_2 : decode cJ9_min_f86c9 2 = .ok (.lcmp, 1) := by decide +kernel
theorem dJ9_min_f86c9_3 : decode cJ9_min_f86c9 3 = .ok (.ifCond .gt 7, 3) := by decide +kernel
theorem dJ9_min_f86c9_6 : decode cJ9_min_f86c9 6 = .ok (.lload_n 0, 1) := by decide +kernel
theorem dJ9_min_f86c9_7 : decode cJ9_min_f86c9 7 = .ok (.goto 4, 3) := by decide +kernel
theorem dJ9_min_f86c9_10 : decode cJ9_min_f86c9 10 = .ok (.lload_n 2, 1) := by decide +kernel
theorem dJ9_min_f86c9_11 : decode cJ9_min_f86c9 11 = .ok (.lreturn, 1) := by decide +kernel
