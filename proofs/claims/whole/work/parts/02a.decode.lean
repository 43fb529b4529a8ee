theorem dX0_init_0 : decode cX0_init 0 = .ok (.aload_n 0, 1) := by decide +kernel
theorem dX0_init_1 : decode cX0_init 1 = .ok (.invokespecial 3, 3) := by decide +kernel
theorem dX0_init_4 : decode cX0_init 4 = .ok (.aload_n 0, 1) := by decide +kernel
theorem dX0_init_5 : decode cX0_init 5 = .ok (.bipush 64, 2) := by decide +kernel
theorem dX0_init_7 : decode cX0_init 7 = .ok (.newarray .int, 2) := by decide +kernel
theorem dX0_init_9 : decode cX0_init 9 = .ok (.putfield 9, 3) := by decide +kernel
theorem dX0_init_12 : decode cX0_init 12 = .ok (.aload_n 0, 1) := by decide +kernel
theorem dX0_init_13 : decode cX0_init 13 = .ok (.iconst 0, 1) := by decide +kernel
theorem dX0_init_14 : decode cX0_init 14 = .ok (.putfield 15, 3) := by decide +kernel
theorem dX0_init_17 : decode cX0_init 17 = .ok (.return_, 1) := by decide +kernel
theorem dX0_put_0 : decode cX0_put 0 = .ok (.aload_n 0, 1) := by decide +kernel
theorem dX0_put_1 : decode cX0_put 1 = .ok (.getfield 15, 3) := by decide +kernel
theorem dX0_put_4 : decode cX0_put 4 = .ok (.bipush 64, 2) := by decide +kernel
theorem dX0_put_6 : decode cX0_put 6 = .ok (.if_icmp .lt 5, 3) := by decide +kernel
theorem dX0_put_9 : decode cX0_put 9 = .ok (.iconst 0, 1) := by decide +kernel
theorem dX0_put_10 : decode cX0_put 10 = .ok (.ireturn, 1) := by decide +kernel
theorem dX0_put_11 : decode cX0_put 11 = .ok (.aload_n 0, 1) := by decide +kernel
theorem dX0_put_12 : decode cX0_put 12 = .ok (.getfield 9, 3) := by decide +kernel
theorem dX0_put_15 : decode cX0_put 15 = .ok (.aload_n 0, 1) := by decide +kernel
theorem dX0_put_16 : decode cX0_put 16 = .ok (.getfield 15, 3) := by decide +kernel
theorem dX0_put_19 : decode cX0_put 19 = .ok (.iload_n 1, 1) := by decide +kernel
theorem dX0_put_20 : decode cX0_put 20 = .ok (.iastore, 1) := by decide +kernel
theorem dX0_put_21 : decode cX0_put 21 = .ok (.aload_n 0, 1) := by decide +kernel
theorem dX0_put_22 : decode cX0_put 22 = .ok (.dup, 1) := by decide +kernel
theorem dX0_put_23 : decode cX0_put 23 = .ok (.getfield 15, 3) := by decide +kernel
theorem dX0_put_26 : decode cX0_put 26 = .ok (.iconst 1, 1) := by decide +kernel
theorem dX0_put_27 : decode cX0_put 27 = .ok (.iadd, 1) := by decide +kernel
theorem dX0_put_28 : decode cX0_put 28 = .ok (.putfield 15, 3) := by decide +kernel
theorem dX0_put_31 : decode cX0_put 31 = .ok (.iconst 1, 1) := by decide +kernel
theorem dX0_put_32 : decode cX0_put 32 = .ok (.ireturn, 1) := by decide +kernel
theorem dX0_at_0 : decode cX0_at 0 = .ok (.iload_n 1, 1) := by decide +kernel
theorem dX0_at_1 : decode cX0_at 1 = .ok (.ifCond .lt 20, 3) := by decide +kernel
theorem dX0_at_4 : decode cX0_at 4 = .ok (.iload_n 1, 1) := by decide +kernel
theorem dX0_at_5 : decode cX0_at 5 = .ok (.aload_n 0, 1) := by decide +kernel
theorem dX0_at_6 : decode cX0_at 6 = .ok (.getfield 15, 3) := by decide +kernel
theorem dX0_at_9 : decode cX0_at 9 = .ok (.if_icmp .ge 12, 3) := by decide +kernel
theorem dX0_at_12 : decode cX0_at 12 = .ok (.aload_n 0, 1) := by decide +kernel
theorem dX0_at_13 : decode cX0_at 13 = .ok (.getfield 9, 3) := by decide +kernel
theorem dX0_at_16 : decode cX0_at 16 = .ok (.iload_n 1, 1) := by decide +kernel
theorem dX0_at_17 : decode cX0_at 17 = .ok (.iaload, 1) := by decide +kernel
theorem dX0_at_18 : decode cX0_at 18 = .ok (.goto 4, 3) := by decide +kernel
theorem dX0_at_21 : decode cX0_at 21 = .ok (.iconst 0, 1) := by decide +kernel
theorem dX0_at_22 : decode cX0_at 22 = .ok (.ireturn, 1) := by decide +kernel
theorem dX0_behind_0 : decode cX0_behind 0 = .ok (.iload_n 1, 1) := by decide +kernel
theorem dX0_behind_1 : decode cX0_behind 1 = .ok (.iconst 1, 1) := by decide +kernel
theorem dX0_behind_2 : decode cX0_behind 2 = .ok (.iadd, 1) := by decide +kernel
theorem dX0_behind_3 : decode cX0_behind 3 = .ok (.aload_n 0, 1) := by decide +kernel
theorem dX0_behind_4 : decode cX0_behind 4 = .ok (.getfield 15, 3) := by decide +kernel
theorem dX0_behind_7 : decode cX0_behind 7 = .ok (.if_icmp .ge 9, 3) := by decide +kernel
theorem dX0_behind_10 : decode cX0_behind 10 = .ok (.iload_n 1, 1) := by decide +kernel
theorem dX0_behind_11 : decode cX0_behind 11 = .ok (.iconst 1, 1) := by decide +kernel
theorem dX0_behind_12 : decode cX0_behind 12 = .ok (.iadd, 1) := by decide +kernel
theorem dX0_behind_13 : decode cX0_behind 13 = .ok (.goto 4, 3) := by decide +kernel
theorem dX0_behind_16 : decode cX0_behind 16 = .ok (.iconst 0, 1) := by decide +kernel
theorem dX0_behind_17 : decode cX0_behind 17 = .ok (.ireturn, 1) := by decide +kernel
theorem dX1_init_0 : decode cX1_init 0 = .ok (.aload_n 0, 1) := by decide +kernel
theorem dX1_init_1 : decode cX1_init 1 = .ok (.invokespecial 3, 3) := by decide +kernel
theorem dX1_init_4 : decode cX1_init 4 = .ok (.aload_n 0, 1) := by decide +kernel
theorem dX1_init_5 : decode cX1_init 5 = .ok (.new 9, 3) := by decide +kernel
theorem dX1_init_8 : decode cX1_init 8 = .ok (.dup, 1) := by decide +kernel
theorem dX1_init_9 : decode cX1_init 9 = .ok (.iconst 5, 1) := by decide +kernel
theorem dX1_init_10 : decode cX1_init 10 = .ok (.invokespecial 11, 3) := by decide +kernel
theorem dX1_init_13 : decode cX1_init 13 = .ok (.putfield 14, 3) := by decide +kernel
theorem dX1_init_16 : decode cX1_init 16 = .ok (.return_, 1) := by decide +kernel
theorem dX1_write_0 : decode cX1_write 0 = .ok (.aload_n 0, 1) := by decide +kernel
theorem dX1_write_1 : decode cX1_write 1 = .ok (.iload_n 1, 1) := by decide +kernel
theorem dX1_write_2 : decode cX1_write 2 = .ok (.putfield 20, 3) := by decide +kernel
theorem dX1_write_5 : decode cX1_write 5 = .ok (.aload_n 0, 1) := by decide +kernel
theorem dX1_write_6 : decode cX1_write 6 = .ok (.iload_n 2, 1) := by decide +kernel
theorem dX1_write_7 : decode cX1_write 7 = .ok (.putfield 24, 3) := by decide +kernel
theorem dX1_write_10 : decode cX1_write 10 = .ok (.aload_n 0, 1) := by decide +kernel
theorem dX1_write_11 : decode cX1_write 11 = .ok (.iload_n 3, 1) := by decide +kernel
theorem dX1_write_12 : decode cX1_write 12 = .ok (.putfield 27, 3) := by decide +kernel
theorem dX1_write_15 : decode cX1_write 15 = .ok (.aload_n 0, 1) := by decide +kernel
theorem dX1_write_16 : decode cX1_write 16 = .ok (.iload 4, 2) := by decide +kernel
theorem dX1_write_18 : decode cX1_write 18 = .ok (.putfield 30, 3) := by decide +kernel
theorem dX1_write_21 : decode cX1_write 21 = .ok (.aload_n 0, 1) := by decide +kernel
theorem dX1_write_22 : decode cX1_write 22 = .ok (.iload 5, 2) := by decide +kernel
theorem dX1_write_24 : decode cX1_write 24 = .ok (.putfield 33, 3) := by decide +kernel
theorem dX1_write_27 : decode cX1_write 27 = .ok (.aload_n 0, 1) := by decide +kernel
theorem dX1_write_28 : decode cX1_write 28 = .ok (.getfield 14, 3) := by decide +kernel
theorem dX1_write_31 : decode cX1_write 31 = .ok (.invokevirtual 36, 3) := by decide +kernel
theorem dX1_write_34 : decode cX1_write 34 = .ok (.return_, 1) := by decide +kernel
theorem dX1_copyFrom_0 : decode cX1_copyFrom 0 = .ok (.aload_n 0, 1) := by decide +kernel
theorem dX1_copyFrom_1 : decode cX1_copyFrom 1 = .ok (.aload_n 1, 1) := by decide +kernel
theorem dX1_copyFrom_2 : decode cX1_copyFrom 2 = .ok (.getfield 20, 3) := by decide +kernel
theorem dX1_copyFrom_5 : decode cX1_copyFrom 5 = .ok (.aload_n 1, 1) := by decide +kernel
theorem dX1_copyFrom_6 : decode cX1_copyFrom 6 = .ok (.getfield 24, 3) := by decide +kernel
theorem dX1_copyFrom_9 : decode cX1_copyFrom 9 = .ok (.aload_n 1, 1) := by decide +kernel
theorem dX1_copyFrom_10 : decode cX1_copyFrom 10 = .ok (.getfield 27, 3) := by decide +kernel
theorem dX1_copyFrom_13 : decode cX1_copyFrom 13 = .ok (.aload_n 1, 1) := by decide +kernel
theorem dX1_copyFrom_14 : decode cX1_copyFrom 14 = .ok (.getfield 30, 3) := by decide +kernel
theorem dX1_copyFrom_17 : decode cX1_copyFrom 17 = .ok (.aload_n 1, 1) := by decide +kernel
theorem dX1_copyFrom_18 : decode cX1_copyFrom 18 = .ok (.getfield 33, 3) := by decide +kernel
theorem dX1_copyFrom_21 : decode cX1_copyFrom 21 = .ok (.invokevirtual 39, 3) := by decide +kernel
theorem dX1_copyFrom_24 : decode cX1_copyFrom 24 = .ok (.aload_n 0, 1) := by decide +kernel
theorem dX1_copyFrom_25 : decode cX1_copyFrom 25 = .ok (.getfield 14, 3) := by decide +kernel
theorem dX1_copyFrom_28 : decode cX1_copyFrom 28 = .ok (.aload_n 1, 1) := by decide +kernel
theorem dX1_copyFrom_29 : decode cX1_copyFrom 29 = .ok (.getfield 14, 3) := by decide +kernel
theorem dX1_copyFrom_32 : decode cX1_copyFrom 32 = .ok (.invokevirtual 43, 3) := by decide +kernel
theorem dX1_copyFrom_35 : decode cX1_copyFrom 35 = .ok (.return_, 1) := by decide +kernel
theorem dX2_init_0 : decode cX2_init 0 = .ok (.aload_n 0, 1) := by decide +kernel
theorem dX2_init_1 : decode cX2_init 1 = .ok (.invokespecial 3, 3) := by decide +kernel
theorem dX2_init_4 : decode cX2_init 4 = .ok (.aload_n 0, 1) := by decide +kernel
theorem dX2_init_5 : decode cX2_init 5 = .ok (.iconst 0, 1) := by decide +kernel
theorem dX2_init_6 : decode cX2_init 6 = .ok (.putfield 9, 3) := by decide +kernel
theorem dX2_init_9 : decode cX2_init 9 = .ok (.aload_n 0, 1) := by decide +kernel
theorem dX2_init_10 : decode cX2_init 10 = .ok (.iconst 0, 1) := by decide +kernel
theorem dX2_init_11 : decode cX2_init 11 = .ok (.putfield 15, 3) := by decide +kernel
theorem dX2_init_14 : decode cX2_init 14 = .ok (.aload_n 0, 1) := by decide +kernel
theorem dX2_init_15 : decode cX2_init 15 = .ok (.new 19, 3) := by decide +kernel
theorem dX2_init_18 : decode cX2_init 18 = .ok (.dup, 1) := by decide +kernel
theorem dX2_init_19 : decode cX2_init 19 = .ok (.iconst 5, 1) := by decide +kernel
theorem dX2_init_20 : decode cX2_init 20 = .ok (.invokespecial 21, 3) := by decide +kernel
theorem dX2_init_23 : decode cX2_init 23 = .ok (.putfield 24, 3) := by decide +kernel
theorem dX2_init_26 : decode cX2_init 26 = .ok (.return_, 1) := by decide +kernel
theorem dX2_end_0 : decode cX2_end 0 = .ok (.aload_n 0, 1) := by decide +kernel
theorem dX2_end_1 : decode cX2_end 1 = .ok (.iconst 0, 1) := by decide +kernel
theorem dX2_end_2 : decode cX2_end 2 = .ok (.putfield 9, 3) := by decide +kernel
theorem dX2_end_5 : decode cX2_end 5 = .ok (.aload_n 0, 1) := by decide +kernel
theorem dX2_end_6 : decode cX2_end 6 = .ok (.iconst 0, 1) := by decide +kernel
theorem dX2_end_7 : decode cX2_end 7 = .ok (.putfield 15, 3) := by decide +kernel
theorem dX2_end_10 : decode cX2_end 10 = .ok (.aload_n 0, 1) := by decide +kernel
theorem dX2_end_11 : decode cX2_end 11 = .ok (.getfield 24, 3) := by decide +kernel
theorem dX2_end_14 : decode cX2_end 14 = .ok (.invokevirtual 28, 3) := by decide +kernel
theorem dX2_end_17 : decode cX2_end 17 = .ok (.return_, 1) := by decide +kernel
theorem dX2_copyFrom_0 : decode cX2_copyFrom 0 = .ok (.aload_n 0, 1) := by decide +kernel
theorem dX2_copyFrom_1 : decode cX2_copyFrom 1 = .ok (.aload_n 1, 1) := by decide +kernel
theorem dX2_copyFrom_2 : decode cX2_copyFrom 2 = .ok (.getfield 9, 3) := by decide +kernel
theorem dX2_copyFrom_5 : decode cX2_copyFrom 5 = .ok (.putfield 9, 3) := by decide +kernel
theorem dX2_copyFrom_8 : decode cX2_copyFrom 8 = .ok (.aload_n 0, 1) := by decide +kernel
theorem dX2_copyFrom_9 : decode cX2_copyFrom 9 = .ok (.aload_n 1, 1) := by decide +kernel
theorem dX2_copyFrom_10 : decode cX2_copyFrom 10 = .ok (.getfield 15, 3) := by decide +kernel
theorem dX2_copyFrom_13 : decode cX2_copyFrom 13 = .ok (.putfield 15, 3) := by decide +kernel
theorem dX2_copyFrom_16 : decode cX2_copyFrom 16 = .ok (.aload_n 0, 1) := by decide +kernel
theorem dX2_copyFrom_17 : decode cX2_copyFrom 17 = .ok (.getfield 24, 3) := by decide +kernel
theorem dX2_copyFrom_20 : decode cX2_copyFrom 20 = .ok (.aload_n 1, 1) := by decide +kernel
theorem dX2_copyFrom_21 : decode cX2_copyFrom 21 = .ok (.getfield 24, 3) := by decide +kernel
theorem dX2_copyFrom_24 : decode cX2_copyFrom 24 = .ok (.invokevirtual 31, 3) := by decide +kernel
theorem dX2_copyFrom_27 : decode cX2_copyFrom 27 = .ok (.return_, 1) := by decide +kernel
theorem dX3_init_0 : decode cX3_init 0 = .ok (.aload_n 0, 1) := by decide +kernel
theorem dX3_init_1 : decode cX3_init 1 = .ok (.invokespecial 3, 3) := by decide +kernel
theorem dX3_init_4 : decode cX3_init 4 = .ok (.aload_n 0, 1) := by decide +kernel
theorem dX3_init_5 : decode cX3_init 5 = .ok (.iconst 0, 1) := by decide +kernel
theorem dX3_init_6 : decode cX3_init 6 = .ok (.putfield 9, 3) := by decide +kernel
theorem dX3_init_9 : decode cX3_init 9 = .ok (.aload_n 0, 1) := by decide +kernel
theorem dX3_init_10 : decode cX3_init 10 = .ok (.new 15, 3) := by decide +kernel
theorem dX3_init_13 : decode cX3_init 13 = .ok (.dup, 1) := by decide +kernel
theorem dX3_init_14 : decode cX3_init 14 = .ok (.iconst 5, 1) := by decide +kernel
theorem dX3_init_15 : decode cX3_init 15 = .ok (.invokespecial 17, 3) := by decide +kernel
theorem dX3_init_18 : decode cX3_init 18 = .ok (.putfield 20, 3) := by decide +kernel
theorem dX3_init_21 : decode cX3_init 21 = .ok (.aload_n 0, 1) := by decide +kernel
theorem dX3_init_22 : decode cX3_init 22 = .ok (.new 15, 3) := by decide +kernel
theorem dX3_init_25 : decode cX3_init 25 = .ok (.dup, 1) := by decide +kernel
theorem dX3_init_26 : decode cX3_init 26 = .ok (.bipush 8, 2) := by decide +kernel
theorem dX3_init_28 : decode cX3_init 28 = .ok (.invokespecial 17, 3) := by decide +kernel
theorem dX3_init_31 : decode cX3_init 31 = .ok (.putfield 24, 3) := by decide +kernel
theorem dX3_init_34 : decode cX3_init 34 = .ok (.aload_n 0, 1) := by decide +kernel
theorem dX3_init_35 : decode cX3_init 35 = .ok (.iconst 0, 1) := by decide +kernel
theorem dX3_init_36 : decode cX3_init 36 = .ok (.putfield 27, 3) := by decide +kernel
theorem dX3_init_39 : decode cX3_init 39 = .ok (.aload_n 0, 1) := by decide +kernel
theorem dX3_init_40 : decode cX3_init 40 = .ok (.bipush (-6), 2) := by decide +kernel
theorem dX3_init_42 : decode cX3_init 42 = .ok (.putfield 31, 3) := by decide +kernel
theorem dX3_init_45 : decode cX3_init 45 = .ok (.aload_n 0, 1) := by decide +kernel
theorem dX3_init_46 : decode cX3_init 46 = .ok (.iconst 0, 1) := by decide +kernel
theorem dX3_init_47 : decode cX3_init 47 = .ok (.putfield 34, 3) := by decide +kernel
theorem dX3_init_50 : decode cX3_init 50 = .ok (.aload_n 0, 1) := by decide +kernel
theorem dX3_init_51 : decode cX3_init 51 = .ok (.iconst 0, 1) := by decide +kernel
theorem dX3_init_52 : decode cX3_init 52 = .ok (.putfield 37, 3) := by decide +kernel
theorem dX3_init_55 : decode cX3_init 55 = .ok (.aload_n 0, 1) := by decide +kernel
theorem dX3_init_56 : decode cX3_init 56 = .ok (.bipush 24, 2) := by decide +kernel
theorem dX3_init_58 : decode cX3_init 58 = .ok (.newarray .int, 2) := by decide +kernel
theorem dX3_init_60 : decode cX3_init 60 = .ok (.putfield 40, 3) := by decide +kernel
theorem dX3_init_63 : decode cX3_init 63 = .ok (.aload_n 0, 1) := by decide +kernel
theorem dX3_init_64 : decode cX3_init 64 = .ok (.bipush 24, 2) := by decide +kernel
theorem dX3_init_66 : decode cX3_init 66 = .ok (.anewarray 44, 3) := by decide +kernel
theorem dX3_init_69 : decode cX3_init 69 = .ok (.putfield 46, 3) := by decide +kernel
theorem dX3_init_72 : decode cX3_init 72 = .ok (.aload_n 0, 1) := by decide +kernel
theorem dX3_init_73 : decode cX3_init 73 = .ok (.iload_n 1, 1) := by decide +kernel
theorem dX3_init_74 : decode cX3_init 74 = .ok (.putfield 50, 3) := by decide +kernel
theorem dX3_init_77 : decode cX3_init 77 = .ok (.iconst 0, 1) := by decide +kernel
theorem dX3_init_78 : decode cX3_init 78 = .ok (.istore_n 2, 1) := by decide +kernel
theorem dX3_init_79 : decode cX3_init 79 = .ok (.iload_n 2, 1) := by decide +kernel
theorem dX3_init_80 : decode cX3_init 80 = .ok (.bipush 24, 2) := by decide +kernel
theorem dX3_init_82 : decode cX3_init 82 = .ok (.if_icmp .ge 30, 3) := by decide +kernel
theorem dX3_init_85 : decode cX3_init 85 = .ok (.aload_n 0, 1) := by decide +kernel
theorem dX3_init_86 : decode cX3_init 86 = .ok (.getfield 40, 3) := by decide +kernel
theorem dX3_init_89 : decode cX3_init 89 = .ok (.iload_n 2, 1) := by decide +kernel
theorem dX3_init_90 : decode cX3_init 90 = .ok (.bipush (-6), 2) := by decide +kernel
theorem dX3_init_92 : decode cX3_init 92 = .ok (.iastore, 1) := by decide +kernel
theorem dX3_init_93 : decode cX3_init 93 = .ok (.aload_n 0, 1) := by decide +kernel
theorem dX3_init_94 : decode cX3_init 94 = .ok (.getfield 46, 3) := by decide +kernel
theorem dX3_init_97 : decode cX3_init 97 = .ok (.iload_n 2, 1) := by decide +kernel
theorem dX3_init_98 : decode cX3_init 98 = .ok (.new 44, 3) := by decide +kernel
theorem dX3_init_101 : decode cX3_init 101 = .ok (.dup, 1) := by decide +kernel
theorem dX3_init_102 : decode cX3_init 102 = .ok (.invokespecial 53, 3) := by decide +kernel
theorem dX3_init_105 : decode cX3_init 105 = .ok (.aastore, 1) := by decide +kernel
theorem dX3_init_106 : decode cX3_init 106 = .ok (.iinc 2 1, 3) := by decide +kernel
theorem dX3_init_109 : decode cX3_init 109 = .ok (.goto (-30), 3) := by decide +kernel
theorem dX3_init_112 : decode cX3_init 112 = .ok (.return_, 1) := by decide +kernel
theorem dX3_begin_0 : decode cX3_begin 0 = .ok (.aload_n 0, 1) := by decide +kernel
theorem dX3_begin_1 : decode cX3_begin 1 = .ok (.iconst 1, 1) := by decide +kernel
theorem dX3_begin_2 : decode cX3_begin 2 = .ok (.putfield 9, 3) := by decide +kernel
theorem dX3_begin_5 : decode cX3_begin 5 = .ok (.aload_n 0, 1) := by decide +kernel
theorem dX3_begin_6 : decode cX3_begin 6 = .ok (.getfield 20, 3) := by decide +kernel
theorem dX3_begin_9 : decode cX3_begin 9 = .ok (.invokevirtual 54, 3) := by decide +kernel
theorem dX3_begin_12 : decode cX3_begin 12 = .ok (.aload_n 0, 1) := by decide +kernel
theorem dX3_begin_13 : decode cX3_begin 13 = .ok (.getfield 24, 3) := by decide +kernel
theorem dX3_begin_16 : decode cX3_begin 16 = .ok (.invokevirtual 54, 3) := by decide +kernel
theorem dX3_begin_19 : decode cX3_begin 19 = .ok (.aload_n 0, 1) := by decide +kernel
theorem dX3_begin_20 : decode cX3_begin 20 = .ok (.iconst 0, 1) := by decide +kernel
theorem dX3_begin_21 : decode cX3_begin 21 = .ok (.putfield 27, 3) := by decide +kernel
theorem dX3_begin_24 : decode cX3_begin 24 = .ok (.aload_n 0, 1) := by decide +kernel
theorem dX3_begin_25 : decode cX3_begin 25 = .ok (.bipush (-6), 2) := by decide +kernel
theorem dX3_begin_27 : decode cX3_begin 27 = .ok (.putfield 31, 3) := by decide +kernel
theorem dX3_begin_30 : decode cX3_begin 30 = .ok (.aload_n 0, 1) := by decide +kernel
theorem dX3_begin_31 : decode cX3_begin 31 = .ok (.iconst 0, 1) := by decide +kernel
theorem dX3_begin_32 : decode cX3_begin 32 = .ok (.putfield 34, 3) := by decide +kernel
theorem dX3_begin_35 : decode cX3_begin 35 = .ok (.aload_n 0, 1) := by decide +kernel
theorem dX3_begin_36 : decode cX3_begin 36 = .ok (.iconst 0, 1) := by decide +kernel
theorem dX3_begin_37 : decode cX3_begin 37 = .ok (.putfield 37, 3) := by decide +kernel
theorem dX3_begin_40 : decode cX3_begin 40 = .ok (.iconst 0, 1) := by decide +kernel
theorem dX3_begin_41 : decode cX3_begin 41 = .ok (.istore_n 1, 1) := by decide +kernel
theorem dX3_begin_42 : decode cX3_begin 42 = .ok (.iload_n 1, 1) := by decide +kernel
theorem dX3_begin_43 : decode cX3_begin 43 = .ok (.bipush 24, 2) := by decide +kernel
theorem dX3_begin_45 : decode cX3_begin 45 = .ok (.if_icmp .ge 26, 3) := by decide +kernel
theorem dX3_begin_48 : decode cX3_begin 48 = .ok (.aload_n 0, 1) := by decide +kernel
theorem dX3_begin_49 : decode cX3_begin 49 = .ok (.getfield 40, 3) := by decide +kernel
theorem dX3_begin_52 : decode cX3_begin 52 = .ok (.iload_n 1, 1) := by decide +kernel
theorem dX3_begin_53 : decode cX3_begin 53 = .ok (.bipush (-6), 2) := by decide +kernel
theorem dX3_begin_55 : decode cX3_begin 55 = .ok (.iastore, 1) := by decide +kernel
theorem dX3_begin_56 : decode cX3_begin 56 = .ok (.aload_n 0, 1) := by decide +kernel
theorem dX3_begin_57 : decode cX3_begin 57 = .ok (.getfield 46, 3) := by decide +kernel
theorem dX3_begin_60 : decode cX3_begin 60 = .ok (.iload_n 1, 1) := by decide +kernel
theorem dX3_begin_61 : decode cX3_begin 61 = .ok (.aaload, 1) := by decide +kernel
theorem dX3_begin_62 : decode cX3_begin 62 = .ok (.invokevirtual 57, 3) := by decide +kernel
theorem dX3_begin_65 : decode cX3_begin 65 = .ok (.iinc 1 1, 3) := by decide +kernel
theorem dX3_begin_68 : decode cX3_begin 68 = .ok (.goto (-26), 3) := by decide +kernel
theorem dX3_begin_71 : decode cX3_begin 71 = .ok (.return_, 1) := by decide +kernel
theorem dX3_isLazy_0 : decode cX3_isLazy 0 = .ok (.aload_n 0, 1) := by decide +kernel
theorem dX3_isLazy_1 : decode cX3_isLazy 1 = .ok (.getfield 27, 3) := by decide +kernel
theorem dX3_isLazy_4 : decode cX3_isLazy 4 = .ok (.iconst 1, 1) := by decide +kernel
theorem dX3_isLazy_5 : decode cX3_isLazy 5 = .ok (.iload_n 1, 1) := by decide +kernel
theorem dX3_isLazy_6 : decode cX3_isLazy 6 = .ok (.ishl, 1) := by decide +kernel
theorem dX3_isLazy_7 : decode cX3_isLazy 7 = .ok (.iand, 1) := by decide +kernel
theorem dX3_isLazy_8 : decode cX3_isLazy 8 = .ok (.ifCond .eq 7, 3) := by decide +kernel
theorem dX3_isLazy_11 : decode cX3_isLazy 11 = .ok (.iconst 1, 1) := by decide +kernel
theorem dX3_isLazy_12 : decode cX3_isLazy 12 = .ok (.goto 4, 3) := by decide +kernel
theorem dX3_isLazy_15 : decode cX3_isLazy 15 = .ok (.iconst 0, 1) := by decide +kernel
theorem dX3_isLazy_16 : decode cX3_isLazy 16 = .ok (.ireturn, 1) := by decide +kernel
theorem dX3_makeLazy_0 : decode cX3_makeLazy 0 = .ok (.aload_n 0, 1) := by decide +kernel
theorem dX3_makeLazy_1 : decode cX3_makeLazy 1 = .ok (.dup, 1) := by decide +kernel
theorem dX3_makeLazy_2 : decode cX3_makeLazy 2 = .ok (.getfield 27, 3) := by decide +kernel
theorem dX3_makeLazy_5 : decode cX3_makeLazy 5 = .ok (.iconst 1, 1) := by decide +kernel
theorem dX3_makeLazy_6 : decode cX3_makeLazy 6 = .ok (.iload_n 1, 1) := by decide +kernel
theorem dX3_makeLazy_7 : decode cX3_makeLazy 7 = .ok (.ishl, 1) := by decide +kernel
theorem dX3_makeLazy_8 : decode cX3_makeLazy 8 = .ok (.ior, 1) := by decide +kernel
theorem dX3_makeLazy_9 : decode cX3_makeLazy 9 = .ok (.putfield 27, 3) := by decide +kernel
theorem dX3_makeLazy_12 : decode cX3_makeLazy 12 = .ok (.return_, 1) := by decide +kernel
theorem dX3_makeEager_0 : decode cX3_makeEager 0 = .ok (.aload_n 0, 1) := by decide +kernel
theorem dX3_makeEager_1 : decode cX3_makeEager 1 = .ok (.dup, 1) := by decide +kernel
theorem dX3_makeEager_2 : decode cX3_makeEager 2 = .ok (.getfield 27, 3) := by decide +kernel
theorem dX3_makeEager_5 : decode cX3_makeEager 5 = .ok (.iconst 1, 1) := by decide +kernel
theorem dX3_makeEager_6 : decode cX3_makeEager 6 = .ok (.iload_n 1, 1) := by decide +kernel
theorem dX3_makeEager_7 : decode cX3_makeEager 7 = .ok (.ishl, 1) := by decide +kernel
theorem dX3_makeEager_8 : decode cX3_makeEager 8 = .ok (.iconst (-1), 1) := by decide +kernel
theorem dX3_makeEager_9 : decode cX3_makeEager 9 = .ok (.ixor, 1) := by decide +kernel
theorem dX3_makeEager_10 : decode cX3_makeEager 10 = .ok (.iand, 1) := by decide +kernel
theorem dX3_makeEager_11 : decode cX3_makeEager 11 = .ok (.putfield 27, 3) := by decide +kernel
theorem dX3_makeEager_14 : decode cX3_makeEager 14 = .ok (.return_, 1) := by decide +kernel
theorem dX3_hopsOf_0 : decode cX3_hopsOf 0 = .ok (.iload_n 1, 1) := by decide +kernel
theorem dX3_hopsOf_1 : decode cX3_hopsOf 1 = .ok (.ifCond .lt 18, 3) := by decide +kernel
theorem dX3_hopsOf_4 : decode cX3_hopsOf 4 = .ok (.iload_n 1, 1) := by decide +kernel
theorem dX3_hopsOf_5 : decode cX3_hopsOf 5 = .ok (.bipush 24, 2) := by decide +kernel
theorem dX3_hopsOf_7 : decode cX3_hopsOf 7 = .ok (.if_icmp .ge 12, 3) := by decide +kernel
theorem dX3_hopsOf_10 : decode cX3_hopsOf 10 = .ok (.aload_n 0, 1) := by decide +kernel
theorem dX3_hopsOf_11 : decode cX3_hopsOf 11 = .ok (.getfield 40, 3) := by decide +kernel
theorem dX3_hopsOf_14 : decode cX3_hopsOf 14 = .ok (.iload_n 1, 1) := by decide +kernel
theorem dX3_hopsOf_15 : decode cX3_hopsOf 15 = .ok (.iaload, 1) := by decide +kernel
theorem dX3_hopsOf_16 : decode cX3_hopsOf 16 = .ok (.goto 5, 3) := by decide +kernel
theorem dX3_hopsOf_19 : decode cX3_hopsOf 19 = .ok (.bipush (-6), 2) := by decide +kernel
theorem dX3_hopsOf_21 : decode cX3_hopsOf 21 = .ok (.ireturn, 1) := by decide +kernel
theorem dX3_missOf_0 : decode cX3_missOf 0 = .ok (.iload_n 1, 1) := by decide +kernel
theorem dX3_missOf_1 : decode cX3_missOf 1 = .ok (.ifCond .lt 18, 3) := by decide +kernel
theorem dX3_missOf_4 : decode cX3_missOf 4 = .ok (.iload_n 1, 1) := by decide +kernel
theorem dX3_missOf_5 : decode cX3_missOf 5 = .ok (.bipush 24, 2) := by decide +kernel
theorem dX3_missOf_7 : decode cX3_missOf 7 = .ok (.if_icmp .ge 12, 3) := by decide +kernel
theorem dX3_missOf_10 : decode cX3_missOf 10 = .ok (.aload_n 0, 1) := by decide +kernel
theorem dX3_missOf_11 : decode cX3_missOf 11 = .ok (.getfield 46, 3) := by decide +kernel
theorem dX3_missOf_14 : decode cX3_missOf 14 = .ok (.iload_n 1, 1) := by decide +kernel
theorem dX3_missOf_15 : decode cX3_missOf 15 = .ok (.aaload, 1) := by decide +kernel
theorem dX3_missOf_16 : decode cX3_missOf 16 = .ok (.goto 9, 3) := by decide +kernel
theorem dX3_missOf_19 : decode cX3_missOf 19 = .ok (.aload_n 0, 1) := by decide +kernel
theorem dX3_missOf_20 : decode cX3_missOf 20 = .ok (.getfield 46, 3) := by decide +kernel
theorem dX3_missOf_23 : decode cX3_missOf 23 = .ok (.iconst 0, 1) := by decide +kernel
theorem dX3_missOf_24 : decode cX3_missOf 24 = .ok (.aaload, 1) := by decide +kernel
theorem dX3_missOf_25 : decode cX3_missOf 25 = .ok (.areturn, 1) := by decide +kernel
theorem dX3_knows_0 : decode cX3_knows 0 = .ok (.aload_n 0, 1) := by decide +kernel
theorem dX3_knows_1 : decode cX3_knows 1 = .ok (.iload_n 1, 1) := by decide +kernel
theorem dX3_knows_2 : decode cX3_knows 2 = .ok (.invokevirtual 60, 3) := by decide +kernel
theorem dX3_knows_5 : decode cX3_knows 5 = .ok (.bipush (-6), 2) := by decide +kernel
theorem dX3_knows_7 : decode cX3_knows 7 = .ok (.if_icmp .eq 7, 3) := by decide +kernel
theorem dX3_knows_10 : decode cX3_knows 10 = .ok (.iconst 1, 1) := by decide +kernel
theorem dX3_knows_11 : decode cX3_knows 11 = .ok (.goto 4, 3) := by decide +kernel
theorem dX3_knows_14 : decode cX3_knows 14 = .ok (.iconst 0, 1) := by decide +kernel
theorem dX3_knows_15 : decode cX3_knows 15 = .ok (.ireturn, 1) := by decide +kernel
theorem dX3_learn_0 : decode cX3_learn 0 = .ok (.iload_n 1, 1) := by decide +kernel
theorem dX3_learn_1 : decode cX3_learn 1 = .ok (.ifCond .lt 25, 3) := by decide +kernel
theorem dX3_learn_4 : decode cX3_learn 4 = .ok (.iload_n 1, 1) := by decide +kernel
theorem dX3_learn_5 : decode cX3_learn 5 = .ok (.bipush 24, 2) := by decide +kernel
theorem dX3_learn_7 : decode cX3_learn 7 = .ok (.if_icmp .ge 19, 3) := by decide +kernel
theorem dX3_learn_10 : decode cX3_learn 10 = .ok (.aload_n 0, 1) := by decide +kernel
theorem dX3_learn_11 : decode cX3_learn 11 = .ok (.getfield 40, 3) := by decide +kernel
theorem dX3_learn_14 : decode cX3_learn 14 = .ok (.iload_n 1, 1) := by decide +kernel
theorem dX3_learn_15 : decode cX3_learn 15 = .ok (.iload_n 2, 1) := by decide +kernel
theorem dX3_learn_16 : decode cX3_learn 16 = .ok (.iastore, 1) := by decide +kernel
theorem dX3_learn_17 : decode cX3_learn 17 = .ok (.aload_n 0, 1) := by decide +kernel
theorem dX3_learn_18 : decode cX3_learn 18 = .ok (.getfield 46, 3) := by decide +kernel
theorem dX3_learn_21 : decode cX3_learn 21 = .ok (.iload_n 1, 1) := by decide +kernel
theorem dX3_learn_22 : decode cX3_learn 22 = .ok (.aaload, 1) := by decide +kernel
theorem dX3_learn_23 : decode cX3_learn 23 = .ok (.invokevirtual 57, 3) := by decide +kernel
theorem dX3_learn_26 : decode cX3_learn 26 = .ok (.return_, 1) := by decide +kernel
theorem dX3_heardCount_0 : decode cX3_heardCount 0 = .ok (.iconst 0, 1) := by decide +kernel
theorem dX3_heardCount_1 : decode cX3_heardCount 1 = .ok (.istore_n 1, 1) := by decide +kernel
theorem dX3_heardCount_2 : decode cX3_heardCount 2 = .ok (.iconst 0, 1) := by decide +kernel
theorem dX3_heardCount_3 : decode cX3_heardCount 3 = .ok (.istore_n 2, 1) := by decide +kernel
theorem dX3_heardCount_4 : decode cX3_heardCount 4 = .ok (.iload_n 2, 1) := by decide +kernel
theorem dX3_heardCount_5 : decode cX3_heardCount 5 = .ok (.bipush 24, 2) := by decide +kernel
theorem dX3_heardCount_7 : decode cX3_heardCount 7 = .ok (.if_icmp .ge 25, 3) := by decide +kernel
theorem dX3_heardCount_10 : decode cX3_heardCount 10 = .ok (.iload_n 1, 1) := by decide +kernel
theorem dX3_heardCount_11 : decode cX3_heardCount 11 = .ok (.aload_n 0, 1) := by decide +kernel
theorem dX3_heardCount_12 : decode cX3_heardCount 12 = .ok (.iload_n 2, 1) := by decide +kernel
theorem dX3_heardCount_13 : decode cX3_heardCount 13 = .ok (.invokevirtual 64, 3) := by decide +kernel
theorem dX3_heardCount_16 : decode cX3_heardCount 16 = .ok (.ifCond .eq 7, 3) := by decide +kernel
theorem dX3_heardCount_19 : decode cX3_heardCount 19 = .ok (.iconst 1, 1) := by decide +kernel
theorem dX3_heardCount_20 : decode cX3_heardCount 20 = .ok (.goto 4, 3) := by decide +kernel
theorem dX3_heardCount_23 : decode cX3_heardCount 23 = .ok (.iconst 0, 1) := by decide +kernel
theorem dX3_heardCount_24 : decode cX3_heardCount 24 = .ok (.iadd, 1) := by decide +kernel
theorem dX3_heardCount_25 : decode cX3_heardCount 25 = .ok (.istore_n 1, 1) := by decide +kernel
theorem dX3_heardCount_26 : decode cX3_heardCount 26 = .ok (.iinc 2 1, 3) := by decide +kernel
theorem dX3_heardCount_29 : decode cX3_heardCount 29 = .ok (.goto (-25), 3) := by decide +kernel
theorem dX3_heardCount_32 : decode cX3_heardCount 32 = .ok (.iload_n 1, 1) := by decide +kernel
theorem dX3_heardCount_33 : decode cX3_heardCount 33 = .ok (.ireturn, 1) := by decide +kernel
theorem dX3_missedCount_0 : decode cX3_missedCount 0 = .ok (.iconst 0, 1) := by decide +kernel
theorem dX3_missedCount_1 : decode cX3_missedCount 1 = .ok (.istore_n 1, 1) := by decide +kernel
theorem dX3_missedCount_2 : decode cX3_missedCount 2 = .ok (.iconst 0, 1) := by decide +kernel
theorem dX3_missedCount_3 : decode cX3_missedCount 3 = .ok (.istore_n 2, 1) := by decide +kernel
theorem dX3_missedCount_4 : decode cX3_missedCount 4 = .ok (.iload_n 2, 1) := by decide +kernel
theorem dX3_missedCount_5 : decode cX3_missedCount 5 = .ok (.bipush 24, 2) := by decide +kernel
theorem dX3_missedCount_7 : decode cX3_missedCount 7 = .ok (.if_icmp .ge 29, 3) := by decide +kernel
theorem dX3_missedCount_10 : decode cX3_missedCount 10 = .ok (.iload_n 1, 1) := by decide +kernel
theorem dX3_missedCount_11 : decode cX3_missedCount 11 = .ok (.aload_n 0, 1) := by decide +kernel
theorem dX3_missedCount_12 : decode cX3_missedCount 12 = .ok (.getfield 46, 3) := by decide +kernel
theorem dX3_missedCount_15 : decode cX3_missedCount 15 = .ok (.iload_n 2, 1) := by decide +kernel
theorem dX3_missedCount_16 : decode cX3_missedCount 16 = .ok (.aaload, 1) := by decide +kernel
theorem dX3_missedCount_17 : decode cX3_missedCount 17 = .ok (.getfield 68, 3) := by decide +kernel
theorem dX3_missedCount_20 : decode cX3_missedCount 20 = .ok (.ifCond .eq 7, 3) := by decide +kernel
theorem dX3_missedCount_23 : decode cX3_missedCount 23 = .ok (.iconst 1, 1) := by decide +kernel
theorem dX3_missedCount_24 : decode cX3_missedCount 24 = .ok (.goto 4, 3) := by decide +kernel
theorem dX3_missedCount_27 : decode cX3_missedCount 27 = .ok (.iconst 0, 1) := by decide +kernel
theorem dX3_missedCount_28 : decode cX3_missedCount 28 = .ok (.iadd, 1) := by decide +kernel
theorem dX3_missedCount_29 : decode cX3_missedCount 29 = .ok (.istore_n 1, 1) := by decide +kernel
theorem dX3_missedCount_30 : decode cX3_missedCount 30 = .ok (.iinc 2 1, 3) := by decide +kernel
theorem dX3_missedCount_33 : decode cX3_missedCount 33 = .ok (.goto (-29), 3) := by decide +kernel
theorem dX3_missedCount_36 : decode cX3_missedCount 36 = .ok (.iload_n 1, 1) := by decide +kernel
theorem dX3_missedCount_37 : decode cX3_missedCount 37 = .ok (.ireturn, 1) := by decide +kernel
theorem dX3_unlink_0 : decode cX3_unlink 0 = .ok (.aload_n 0, 1) := by decide +kernel
theorem dX3_unlink_1 : decode cX3_unlink 1 = .ok (.getfield 20, 3) := by decide +kernel
theorem dX3_unlink_4 : decode cX3_unlink 4 = .ok (.iload_n 1, 1) := by decide +kernel
theorem dX3_unlink_5 : decode cX3_unlink 5 = .ok (.invokevirtual 71, 3) := by decide +kernel
theorem dX3_unlink_8 : decode cX3_unlink 8 = .ok (.aload_n 0, 1) := by decide +kernel
theorem dX3_unlink_9 : decode cX3_unlink 9 = .ok (.iload_n 1, 1) := by decide +kernel
theorem dX3_unlink_10 : decode cX3_unlink 10 = .ok (.invokevirtual 74, 3) := by decide +kernel
theorem dX3_unlink_13 : decode cX3_unlink 13 = .ok (.iconst 0, 1) := by decide +kernel
theorem dX3_unlink_14 : decode cX3_unlink 14 = .ok (.istore_n 2, 1) := by decide +kernel
theorem dX3_unlink_15 : decode cX3_unlink 15 = .ok (.iload_n 2, 1) := by decide +kernel
theorem dX3_unlink_16 : decode cX3_unlink 16 = .ok (.bipush 24, 2) := by decide +kernel
theorem dX3_unlink_18 : decode cX3_unlink 18 = .ok (.if_icmp .ge 22, 3) := by decide +kernel
theorem dX3_unlink_21 : decode cX3_unlink 21 = .ok (.aload_n 0, 1) := by decide +kernel
theorem dX3_unlink_22 : decode cX3_unlink 22 = .ok (.getfield 46, 3) := by decide +kernel
theorem dX3_unlink_25 : decode cX3_unlink 25 = .ok (.iload_n 2, 1) := by decide +kernel
theorem dX3_unlink_26 : decode cX3_unlink 26 = .ok (.aaload, 1) := by decide +kernel
theorem dX3_unlink_27 : decode cX3_unlink 27 = .ok (.getfield 77, 3) := by decide +kernel
theorem dX3_unlink_30 : decode cX3_unlink 30 = .ok (.iload_n 1, 1) := by decide +kernel
theorem dX3_unlink_31 : decode cX3_unlink 31 = .ok (.invokevirtual 71, 3) := by decide +kernel
theorem dX3_unlink_34 : decode cX3_unlink 34 = .ok (.iinc 2 1, 3) := by decide +kernel
theorem dX3_unlink_37 : decode cX3_unlink 37 = .ok (.goto (-22), 3) := by decide +kernel
theorem dX3_unlink_40 : decode cX3_unlink 40 = .ok (.return_, 1) := by decide +kernel
theorem dX3_copyFrom_0 : decode cX3_copyFrom 0 = .ok (.aload_n 0, 1) := by decide +kernel
theorem dX3_copyFrom_1 : decode cX3_copyFrom 1 = .ok (.aload_n 1, 1) := by decide +kernel
theorem dX3_copyFrom_2 : decode cX3_copyFrom 2 = .ok (.getfield 9, 3) := by decide +kernel
theorem dX3_copyFrom_5 : decode cX3_copyFrom 5 = .ok (.putfield 9, 3) := by decide +kernel
theorem dX3_copyFrom_8 : decode cX3_copyFrom 8 = .ok (.aload_n 0, 1) := by decide +kernel
theorem dX3_copyFrom_9 : decode cX3_copyFrom 9 = .ok (.getfield 20, 3) := by decide +kernel
theorem dX3_copyFrom_12 : decode cX3_copyFrom 12 = .ok (.aload_n 1, 1) := by decide +kernel
theorem dX3_copyFrom_13 : decode cX3_copyFrom 13 = .ok (.getfield 20, 3) := by decide +kernel
theorem dX3_copyFrom_16 : decode cX3_copyFrom 16 = .ok (.invokevirtual 80, 3) := by decide +kernel
theorem dX3_copyFrom_19 : decode cX3_copyFrom 19 = .ok (.aload_n 0, 1) := by decide +kernel
theorem dX3_copyFrom_20 : decode cX3_copyFrom 20 = .ok (.getfield 24, 3) := by decide +kernel
theorem dX3_copyFrom_23 : decode cX3_copyFrom 23 = .ok (.aload_n 1, 1) := by decide +kernel
theorem dX3_copyFrom_24 : decode cX3_copyFrom 24 = .ok (.getfield 24, 3) := by decide +kernel
theorem dX3_copyFrom_27 : decode cX3_copyFrom 27 = .ok (.invokevirtual 80, 3) := by decide +kernel
theorem dX3_copyFrom_30 : decode cX3_copyFrom 30 = .ok (.aload_n 0, 1) := by decide +kernel
theorem dX3_copyFrom_31 : decode cX3_copyFrom 31 = .ok (.aload_n 1, 1) := by decide +kernel
theorem dX3_copyFrom_32 : decode cX3_copyFrom 32 = .ok (.getfield 27, 3) := by decide +kernel
theorem dX3_copyFrom_35 : decode cX3_copyFrom 35 = .ok (.putfield 27, 3) := by decide +kernel
theorem dX3_copyFrom_38 : decode cX3_copyFrom 38 = .ok (.aload_n 0, 1) := by decide +kernel
theorem dX3_copyFrom_39 : decode cX3_copyFrom 39 = .ok (.aload_n 1, 1) := by decide +kernel
theorem dX3_copyFrom_40 : decode cX3_copyFrom 40 = .ok (.getfield 31, 3) := by decide +kernel
theorem dX3_copyFrom_43 : decode cX3_copyFrom 43 = .ok (.putfield 31, 3) := by decide +kernel
theorem dX3_copyFrom_46 : decode cX3_copyFrom 46 = .ok (.aload_n 0, 1) := by decide +kernel
theorem dX3_copyFrom_47 : decode cX3_copyFrom 47 = .ok (.aload_n 1, 1) := by decide +kernel
theorem dX3_copyFrom_48 : decode cX3_copyFrom 48 = .ok (.getfield 34, 3) := by decide +kernel
theorem dX3_copyFrom_51 : decode cX3_copyFrom 51 = .ok (.putfield 34, 3) := by decide +kernel
theorem dX3_copyFrom_54 : decode cX3_copyFrom 54 = .ok (.aload_n 0, 1) := by decide +kernel
theorem dX3_copyFrom_55 : decode cX3_copyFrom 55 = .ok (.aload_n 1, 1) := by decide +kernel
theorem dX3_copyFrom_56 : decode cX3_copyFrom 56 = .ok (.getfield 37, 3) := by decide +kernel
theorem dX3_copyFrom_59 : decode cX3_copyFrom 59 = .ok (.putfield 37, 3) := by decide +kernel
theorem dX3_copyFrom_62 : decode cX3_copyFrom 62 = .ok (.iconst 0, 1) := by decide +kernel
theorem dX3_copyFrom_63 : decode cX3_copyFrom 63 = .ok (.istore_n 2, 1) := by decide +kernel
theorem dX3_copyFrom_64 : decode cX3_copyFrom 64 = .ok (.iload_n 2, 1) := by decide +kernel
theorem dX3_copyFrom_65 : decode cX3_copyFrom 65 = .ok (.bipush 24, 2) := by decide +kernel
theorem dX3_copyFrom_67 : decode cX3_copyFrom 67 = .ok (.if_icmp .ge 34, 3) := by decide +kernel
theorem dX3_copyFrom_70 : decode cX3_copyFrom 70 = .ok (.aload_n 0, 1) := by decide +kernel
theorem dX3_copyFrom_71 : decode cX3_copyFrom 71 = .ok (.getfield 40, 3) := by decide +kernel
theorem dX3_copyFrom_74 : decode cX3_copyFrom 74 = .ok (.iload_n 2, 1) := by decide +kernel
theorem dX3_copyFrom_75 : decode cX3_copyFrom 75 = .ok (.aload_n 1, 1) := by decide +kernel
theorem dX3_copyFrom_76 : decode cX3_copyFrom 76 = .ok (.iload_n 2, 1) := by decide +kernel
theorem dX3_copyFrom_77 : decode cX3_copyFrom 77 = .ok (.invokevirtual 60, 3) := by decide +kernel
theorem dX3_copyFrom_80 : decode cX3_copyFrom 80 = .ok (.iastore, 1) := by decide +kernel
theorem dX3_copyFrom_81 : decode cX3_copyFrom 81 = .ok (.aload_n 0, 1) := by decide +kernel
theorem dX3_copyFrom_82 : decode cX3_copyFrom 82 = .ok (.getfield 46, 3) := by decide +kernel
theorem dX3_copyFrom_85 : decode cX3_copyFrom 85 = .ok (.iload_n 2, 1) := by decide +kernel
theorem dX3_copyFrom_86 : decode cX3_copyFrom 86 = .ok (.aaload, 1) := by decide +kernel
theorem dX3_copyFrom_87 : decode cX3_copyFrom 87 = .ok (.aload_n 1, 1) := by decide +kernel
theorem dX3_copyFrom_88 : decode cX3_copyFrom 88 = .ok (.iload_n 2, 1) := by decide +kernel
theorem dX3_copyFrom_89 : decode cX3_copyFrom 89 = .ok (.invokevirtual 84, 3) := by decide +kernel
theorem dX3_copyFrom_92 : decode cX3_copyFrom 92 = .ok (.invokevirtual 88, 3) := by decide +kernel
theorem dX3_copyFrom_95 : decode cX3_copyFrom 95 = .ok (.iinc 2 1, 3) := by decide +kernel
theorem dX3_copyFrom_98 : decode cX3_copyFrom 98 = .ok (.goto (-34), 3) := by decide +kernel
theorem dX3_copyFrom_101 : decode cX3_copyFrom 101 = .ok (.return_, 1) := by decide +kernel
theorem dX3_looksLike_0 : decode cX3_looksLike 0 = .ok (.aload_n 0, 1) := by decide +kernel
theorem dX3_looksLike_1 : decode cX3_looksLike 1 = .ok (.getfield 20, 3) := by decide +kernel
theorem dX3_looksLike_4 : decode cX3_looksLike 4 = .ok (.aload_n 1, 1) := by decide +kernel
theorem dX3_looksLike_5 : decode cX3_looksLike 5 = .ok (.getfield 20, 3) := by decide +kernel
theorem dX3_looksLike_8 : decode cX3_looksLike 8 = .ok (.invokevirtual 91, 3) := by decide +kernel
theorem dX3_looksLike_11 : decode cX3_looksLike 11 = .ok (.ifCond .eq 17, 3) := by decide +kernel
theorem dX3_looksLike_14 : decode cX3_looksLike 14 = .ok (.aload_n 0, 1) := by decide +kernel
theorem dX3_looksLike_15 : decode cX3_looksLike 15 = .ok (.getfield 24, 3) := by decide +kernel
theorem dX3_looksLike_18 : decode cX3_looksLike 18 = .ok (.aload_n 1, 1) := by decide +kernel
theorem dX3_looksLike_19 : decode cX3_looksLike 19 = .ok (.getfield 24, 3) := by decide +kernel
theorem dX3_looksLike_22 : decode cX3_looksLike 22 = .ok (.invokevirtual 91, 3) := by decide +kernel
theorem dX3_looksLike_25 : decode cX3_looksLike 25 = .ok (.ifCond .ne 5, 3) := by decide +kernel
theorem dX3_looksLike_28 : decode cX3_looksLike 28 = .ok (.iconst 0, 1) := by decide +kernel
theorem dX3_looksLike_29 : decode cX3_looksLike 29 = .ok (.ireturn, 1) := by decide +kernel
theorem dX3_looksLike_30 : decode cX3_looksLike 30 = .ok (.aload_n 0, 1) := by decide +kernel
theorem dX3_looksLike_31 : decode cX3_looksLike 31 = .ok (.getfield 27, 3) := by decide +kernel
theorem dX3_looksLike_34 : decode cX3_looksLike 34 = .ok (.aload_n 1, 1) := by decide +kernel
theorem dX3_looksLike_35 : decode cX3_looksLike 35 = .ok (.getfield 27, 3) := by decide +kernel
theorem dX3_looksLike_38 : decode cX3_looksLike 38 = .ok (.if_icmp .eq 5, 3) := by decide +kernel
theorem dX3_looksLike_41 : decode cX3_looksLike 41 = .ok (.iconst 0, 1) := by decide +kernel
theorem dX3_looksLike_42 : decode cX3_looksLike 42 = .ok (.ireturn, 1) := by decide +kernel
theorem dX3_looksLike_43 : decode cX3_looksLike 43 = .ok (.iconst 0, 1) := by decide +kernel
theorem dX3_looksLike_44 : decode cX3_looksLike 44 = .ok (.istore_n 2, 1) := by decide +kernel
theorem dX3_looksLike_45 : decode cX3_looksLike 45 = .ok (.iload_n 2, 1) := by decide +kernel
theorem dX3_looksLike_46 : decode cX3_looksLike 46 = .ok (.bipush 24, 2) := by decide +kernel
theorem dX3_looksLike_48 : decode cX3_looksLike 48 = .ok (.if_icmp .ge 25, 3) := by decide +kernel
theorem dX3_looksLike_51 : decode cX3_looksLike 51 = .ok (.aload_n 0, 1) := by decide +kernel
theorem dX3_looksLike_52 : decode cX3_looksLike 52 = .ok (.getfield 40, 3) := by decide +kernel
theorem dX3_looksLike_55 : decode cX3_looksLike 55 = .ok (.iload_n 2, 1) := by decide +kernel
theorem dX3_looksLike_56 : decode cX3_looksLike 56 = .ok (.iaload, 1) := by decide +kernel
theorem dX3_looksLike_57 : decode cX3_looksLike 57 = .ok (.aload_n 1, 1) := by decide +kernel
theorem dX3_looksLike_58 : decode cX3_looksLike 58 = .ok (.iload_n 2, 1) := by decide +kernel
theorem dX3_looksLike_59 : decode cX3_looksLike 59 = .ok (.invokevirtual 60, 3) := by decide +kernel
theorem dX3_looksLike_62 : decode cX3_looksLike 62 = .ok (.if_icmp .eq 5, 3) := by decide +kernel
theorem dX3_looksLike_65 : decode cX3_looksLike 65 = .ok (.iconst 0, 1) := by decide +kernel
theorem dX3_looksLike_66 : decode cX3_looksLike 66 = .ok (.ireturn, 1) := by decide +kernel
theorem dX3_looksLike_67 : decode cX3_looksLike 67 = .ok (.iinc 2 1, 3) := by decide +kernel
theorem dX3_looksLike_70 : decode cX3_looksLike 70 = .ok (.goto (-25), 3) := by decide +kernel
theorem dX3_looksLike_73 : decode cX3_looksLike 73 = .ok (.iconst 1, 1) := by decide +kernel
theorem dX3_looksLike_74 : decode cX3_looksLike 74 = .ok (.ireturn, 1) := by decide +kernel
theorem dX4_init_0 : decode cX4_init 0 = .ok (.aload_n 0, 1) := by decide +kernel
theorem dX4_init_1 : decode cX4_init 1 = .ok (.invokespecial 3, 3) := by decide +kernel
theorem dX4_init_4 : decode cX4_init 4 = .ok (.aload_n 0, 1) := by decide +kernel
theorem dX4_init_5 : decode cX4_init 5 = .ok (.iconst 0, 1) := by decide +kernel
theorem dX4_init_6 : decode cX4_init 6 = .ok (.putfield 9, 3) := by decide +kernel
theorem dX4_init_9 : decode cX4_init 9 = .ok (.aload_n 0, 1) := by decide +kernel
theorem dX4_init_10 : decode cX4_init 10 = .ok (.iload_n 1, 1) := by decide +kernel
theorem dX4_init_11 : decode cX4_init 11 = .ok (.iconst 0, 1) := by decide +kernel
theorem dX4_init_12 : decode cX4_init 12 = .ok (.invokestatic 15, 3) := by decide +kernel
theorem dX4_init_15 : decode cX4_init 15 = .ok (.newarray .int, 2) := by decide +kernel
theorem dX4_init_17 : decode cX4_init 17 = .ok (.putfield 21, 3) := by decide +kernel
theorem dX4_init_20 : decode cX4_init 20 = .ok (.return_, 1) := by decide +kernel
theorem dX4_at_0 : decode cX4_at 0 = .ok (.iload_n 1, 1) := by decide +kernel
theorem dX4_at_1 : decode cX4_at 1 = .ok (.ifCond .lt 20, 3) := by decide +kernel
theorem dX4_at_4 : decode cX4_at 4 = .ok (.iload_n 1, 1) := by decide +kernel
theorem dX4_at_5 : decode cX4_at 5 = .ok (.aload_n 0, 1) := by decide +kernel
theorem dX4_at_6 : decode cX4_at 6 = .ok (.getfield 9, 3) := by decide +kernel
theorem dX4_at_9 : decode cX4_at 9 = .ok (.if_icmp .ge 12, 3) := by decide +kernel
theorem dX4_at_12 : decode cX4_at 12 = .ok (.aload_n 0, 1) := by decide +kernel
theorem dX4_at_13 : decode cX4_at 13 = .ok (.getfield 21, 3) := by decide +kernel
theorem dX4_at_16 : decode cX4_at 16 = .ok (.iload_n 1, 1) := by decide +kernel
theorem dX4_at_17 : decode cX4_at 17 = .ok (.iaload, 1) := by decide +kernel
theorem dX4_at_18 : decode cX4_at 18 = .ok (.goto 5, 3) := by decide +kernel
theorem dX4_at_21 : decode cX4_at 21 = .ok (.bipush (-6), 2) := by decide +kernel
theorem dX4_at_23 : decode cX4_at 23 = .ok (.ireturn, 1) := by decide +kernel
theorem dX4_placeOf_0 : decode cX4_placeOf 0 = .ok (.iconst 0, 1) := by decide +kernel
theorem dX4_placeOf_1 : decode cX4_placeOf 1 = .ok (.istore_n 2, 1) := by decide +kernel
theorem dX4_placeOf_2 : decode cX4_placeOf 2 = .ok (.iload_n 2, 1) := by decide +kernel
theorem dX4_placeOf_3 : decode cX4_placeOf 3 = .ok (.aload_n 0, 1) := by decide +kernel
theorem dX4_placeOf_4 : decode cX4_placeOf 4 = .ok (.getfield 9, 3) := by decide +kernel
theorem dX4_placeOf_7 : decode cX4_placeOf 7 = .ok (.if_icmp .ge 21, 3) := by decide +kernel
theorem dX4_placeOf_10 : decode cX4_placeOf 10 = .ok (.aload_n 0, 1) := by decide +kernel
theorem dX4_placeOf_11 : decode cX4_placeOf 11 = .ok (.getfield 21, 3) := by decide +kernel
theorem dX4_placeOf_14 : decode cX4_placeOf 14 = .ok (.iload_n 2, 1) := by decide +kernel
theorem dX4_placeOf_15 : decode cX4_placeOf 15 = .ok (.iaload, 1) := by decide +kernel
theorem dX4_placeOf_16 : decode cX4_placeOf 16 = .ok (.iload_n 1, 1) := by decide +kernel
theorem dX4_placeOf_17 : decode cX4_placeOf 17 = .ok (.if_icmp .ne 5, 3) := by decide +kernel
theorem dX4_placeOf_20 : decode cX4_placeOf 20 = .ok (.iload_n 2, 1) := by decide +kernel
theorem dX4_placeOf_21 : decode cX4_placeOf 21 = .ok (.ireturn, 1) := by decide +kernel
theorem dX4_placeOf_22 : decode cX4_placeOf 22 = .ok (.iinc 2 1, 3) := by decide +kernel
theorem dX4_placeOf_25 : decode cX4_placeOf 25 = .ok (.goto (-23), 3) := by decide +kernel
theorem dX4_placeOf_28 : decode cX4_placeOf 28 = .ok (.bipush (-6), 2) := by decide +kernel
theorem dX4_placeOf_30 : decode cX4_placeOf 30 = .ok (.ireturn, 1) := by decide +kernel
theorem dX4_has_0 : decode cX4_has 0 = .ok (.aload_n 0, 1) := by decide +kernel
theorem dX4_has_1 : decode cX4_has 1 = .ok (.iload_n 1, 1) := by decide +kernel
theorem dX4_has_2 : decode cX4_has 2 = .ok (.invokevirtual 25, 3) := by decide +kernel
theorem dX4_has_5 : decode cX4_has 5 = .ok (.bipush (-6), 2) := by decide +kernel
theorem dX4_has_7 : decode cX4_has 7 = .ok (.if_icmp .eq 7, 3) := by decide +kernel
theorem dX4_has_10 : decode cX4_has 10 = .ok (.iconst 1, 1) := by decide +kernel
theorem dX4_has_11 : decode cX4_has 11 = .ok (.goto 4, 3) := by decide +kernel
theorem dX4_has_14 : decode cX4_has 14 = .ok (.iconst 0, 1) := by decide +kernel
theorem dX4_has_15 : decode cX4_has 15 = .ok (.ireturn, 1) := by decide +kernel
theorem dX4_put_0 : decode cX4_put 0 = .ok (.aload_n 0, 1) := by decide +kernel
theorem dX4_put_1 : decode cX4_put 1 = .ok (.getfield 9, 3) := by decide +kernel
theorem dX4_put_4 : decode cX4_put 4 = .ok (.aload_n 0, 1) := by decide +kernel
theorem dX4_put_5 : decode cX4_put 5 = .ok (.getfield 21, 3) := by decide +kernel
theorem dX4_put_8 : decode cX4_put 8 = .ok (.arraylength, 1) := by decide +kernel
theorem dX4_put_9 : decode cX4_put 9 = .ok (.if_icmp .ge 23, 3) := by decide +kernel
theorem dX4_put_12 : decode cX4_put 12 = .ok (.aload_n 0, 1) := by decide +kernel
theorem dX4_put_13 : decode cX4_put 13 = .ok (.getfield 21, 3) := by decide +kernel
theorem dX4_put_16 : decode cX4_put 16 = .ok (.aload_n 0, 1) := by decide +kernel
theorem dX4_put_17 : decode cX4_put 17 = .ok (.getfield 9, 3) := by decide +kernel
theorem dX4_put_20 : decode cX4_put 20 = .ok (.iload_n 1, 1) := by decide +kernel
theorem dX4_put_21 : decode cX4_put 21 = .ok (.iastore, 1) := by decide +kernel
theorem dX4_put_22 : decode cX4_put 22 = .ok (.aload_n 0, 1) := by decide +kernel
theorem dX4_put_23 : decode cX4_put 23 = .ok (.dup, 1) := by decide +kernel
theorem dX4_put_24 : decode cX4_put 24 = .ok (.getfield 9, 3) := by decide +kernel
theorem dX4_put_27 : decode cX4_put 27 = .ok (.iconst 1, 1) := by decide +kernel
theorem dX4_put_28 : decode cX4_put 28 = .ok (.iadd, 1) := by decide +kernel
theorem dX4_put_29 : decode cX4_put 29 = .ok (.putfield 9, 3) := by decide +kernel
theorem dX4_put_32 : decode cX4_put 32 = .ok (.return_, 1) := by decide +kernel
theorem dX4_removeAt_0 : decode cX4_removeAt 0 = .ok (.iload_n 1, 1) := by decide +kernel
theorem dX4_removeAt_1 : decode cX4_removeAt 1 = .ok (.ifCond .lt 11, 3) := by decide +kernel
theorem dX4_removeAt_4 : decode cX4_removeAt 4 = .ok (.iload_n 1, 1) := by decide +kernel
theorem dX4_removeAt_5 : decode cX4_removeAt 5 = .ok (.aload_n 0, 1) := by decide +kernel
theorem dX4_removeAt_6 : decode cX4_removeAt 6 = .ok (.getfield 9, 3) := by decide +kernel
theorem dX4_removeAt_9 : decode cX4_removeAt 9 = .ok (.if_icmp .lt 4, 3) := by decide +kernel
theorem dX4_removeAt_12 : decode cX4_removeAt 12 = .ok (.return_, 1) := by decide +kernel
theorem dX4_removeAt_13 : decode cX4_removeAt 13 = .ok (.iload_n 1, 1) := by decide +kernel
theorem dX4_removeAt_14 : decode cX4_removeAt 14 = .ok (.istore_n 2, 1) := by decide +kernel
theorem dX4_removeAt_15 : decode cX4_removeAt 15 = .ok (.iload_n 2, 1) := by decide +kernel
theorem dX4_removeAt_16 : decode cX4_removeAt 16 = .ok (.iconst 1, 1) := by decide +kernel
theorem dX4_removeAt_17 : decode cX4_removeAt 17 = .ok (.iadd, 1) := by decide +kernel
theorem dX4_removeAt_18 : decode cX4_removeAt 18 = .ok (.aload_n 0, 1) := by decide +kernel
theorem dX4_removeAt_19 : decode cX4_removeAt 19 = .ok (.getfield 9, 3) := by decide +kernel
theorem dX4_removeAt_22 : decode cX4_removeAt 22 = .ok (.if_icmp .ge 23, 3) := by decide +kernel
theorem dX4_removeAt_25 : decode cX4_removeAt 25 = .ok (.aload_n 0, 1) := by decide +kernel
theorem dX4_removeAt_26 : decode cX4_removeAt 26 = .ok (.getfield 21, 3) := by decide +kernel
theorem dX4_removeAt_29 : decode cX4_removeAt 29 = .ok (.iload_n 2, 1) := by decide +kernel
theorem dX4_removeAt_30 : decode cX4_removeAt 30 = .ok (.aload_n 0, 1) := by decide +kernel
theorem dX4_removeAt_31 : decode cX4_removeAt 31 = .ok (.getfield 21, 3) := by decide +kernel
theorem dX4_removeAt_34 : decode cX4_removeAt 34 = .ok (.iload_n 2, 1) := by decide +kernel
theorem dX4_removeAt_35 : decode cX4_removeAt 35 = .ok (.iconst 1, 1) := by decide +kernel
theorem dX4_removeAt_36 : decode cX4_removeAt 36 = .ok (.iadd, 1) := by decide +kernel
theorem dX4_removeAt_37 : decode cX4_removeAt 37 = .ok (.iaload, 1) := by decide +kernel
theorem dX4_removeAt_38 : decode cX4_removeAt 38 = .ok (.iastore, 1) := by decide +kernel
theorem dX4_removeAt_39 : decode cX4_removeAt 39 = .ok (.iinc 2 1, 3) := by decide +kernel
theorem dX4_removeAt_42 : decode cX4_removeAt 42 = .ok (.goto (-27), 3) := by decide +kernel
theorem dX4_removeAt_45 : decode cX4_removeAt 45 = .ok (.aload_n 0, 1) := by decide +kernel
theorem dX4_removeAt_46 : decode cX4_removeAt 46 = .ok (.dup, 1) := by decide +kernel
theorem dX4_removeAt_47 : decode cX4_removeAt 47 = .ok (.getfield 9, 3) := by decide +kernel
theorem dX4_removeAt_50 : decode cX4_removeAt 50 = .ok (.iconst 1, 1) := by decide +kernel
theorem dX4_removeAt_51 : decode cX4_removeAt 51 = .ok (.isub, 1) := by decide +kernel
theorem dX4_removeAt_52 : decode cX4_removeAt 52 = .ok (.putfield 9, 3) := by decide +kernel
theorem dX4_removeAt_55 : decode cX4_removeAt 55 = .ok (.return_, 1) := by decide +kernel
theorem dX4_remove_0 : decode cX4_remove 0 = .ok (.aload_n 0, 1) := by decide +kernel
theorem dX4_remove_1 : decode cX4_remove 1 = .ok (.aload_n 0, 1) := by decide +kernel
theorem dX4_remove_2 : decode cX4_remove 2 = .ok (.iload_n 1, 1) := by decide +kernel
theorem dX4_remove_3 : decode cX4_remove 3 = .ok (.invokevirtual 25, 3) := by decide +kernel
theorem dX4_remove_6 : decode cX4_remove 6 = .ok (.invokevirtual 29, 3) := by decide +kernel
theorem dX4_remove_9 : decode cX4_remove 9 = .ok (.return_, 1) := by decide +kernel
theorem dX4_clear_0 : decode cX4_clear 0 = .ok (.aload_n 0, 1) := by decide +kernel
theorem dX4_clear_1 : decode cX4_clear 1 = .ok (.iconst 0, 1) := by decide +kernel
theorem dX4_clear_2 : decode cX4_clear 2 = .ok (.putfield 9, 3) := by decide +kernel
theorem dX4_clear_5 : decode cX4_clear 5 = .ok (.return_, 1) := by decide +kernel
theorem dX4_copyFrom_0 : decode cX4_copyFrom 0 = .ok (.aload_n 0, 1) := by decide +kernel
theorem dX4_copyFrom_1 : decode cX4_copyFrom 1 = .ok (.aload_n 1, 1) := by decide +kernel
theorem dX4_copyFrom_2 : decode cX4_copyFrom 2 = .ok (.getfield 9, 3) := by decide +kernel
theorem dX4_copyFrom_5 : decode cX4_copyFrom 5 = .ok (.aload_n 0, 1) := by decide +kernel
theorem dX4_copyFrom_6 : decode cX4_copyFrom 6 = .ok (.getfield 21, 3) := by decide +kernel
theorem dX4_copyFrom_9 : decode cX4_copyFrom 9 = .ok (.arraylength, 1) := by decide +kernel
theorem dX4_copyFrom_10 : decode cX4_copyFrom 10 = .ok (.invokestatic 33, 3) := by decide +kernel
theorem dX4_copyFrom_13 : decode cX4_copyFrom 13 = .ok (.putfield 9, 3) := by decide +kernel
theorem dX4_copyFrom_16 : decode cX4_copyFrom 16 = .ok (.iconst 0, 1) := by decide +kernel
theorem dX4_copyFrom_17 : decode cX4_copyFrom 17 = .ok (.istore_n 2, 1) := by decide +kernel
theorem dX4_copyFrom_18 : decode cX4_copyFrom 18 = .ok (.iload_n 2, 1) := by decide +kernel
theorem dX4_copyFrom_19 : decode cX4_copyFrom 19 = .ok (.aload_n 0, 1) := by decide +kernel
theorem dX4_copyFrom_20 : decode cX4_copyFrom 20 = .ok (.getfield 9, 3) := by decide +kernel
theorem dX4_copyFrom_23 : decode cX4_copyFrom 23 = .ok (.if_icmp .ge 20, 3) := by decide +kernel
theorem dX4_copyFrom_26 : decode cX4_copyFrom 26 = .ok (.aload_n 0, 1) := by decide +kernel
theorem dX4_copyFrom_27 : decode cX4_copyFrom 27 = .ok (.getfield 21, 3) := by decide +kernel
theorem dX4_copyFrom_30 : decode cX4_copyFrom 30 = .ok (.iload_n 2, 1) := by decide +kernel
theorem dX4_copyFrom_31 : decode cX4_copyFrom 31 = .ok (.aload_n 1, 1) := by decide +kernel
theorem dX4_copyFrom_32 : decode cX4_copyFrom 32 = .ok (.iload_n 2, 1) := by decide +kernel
theorem dX4_copyFrom_33 : decode cX4_copyFrom 33 = .ok (.invokevirtual 36, 3) := by decide +kernel
theorem dX4_copyFrom_36 : decode cX4_copyFrom 36 = .ok (.iastore, 1) := by decide +kernel
theorem dX4_copyFrom_37 : decode cX4_copyFrom 37 = .ok (.iinc 2 1, 3) := by decide +kernel
theorem dX4_copyFrom_40 : decode cX4_copyFrom 40 = .ok (.goto (-22), 3) := by decide +kernel
theorem dX4_copyFrom_43 : decode cX4_copyFrom 43 = .ok (.return_, 1) := by decide +kernel
theorem dX4_isSameAs_0 : decode cX4_isSameAs 0 = .ok (.aload_n 0, 1) := by decide +kernel
theorem dX4_isSameAs_1 : decode cX4_isSameAs 1 = .ok (.getfield 9, 3) := by decide +kernel
theorem dX4_isSameAs_4 : decode cX4_isSameAs 4 = .ok (.aload_n 1, 1) := by decide +kernel
theorem dX4_isSameAs_5 : decode cX4_isSameAs 5 = .ok (.getfield 9, 3) := by decide +kernel
theorem dX4_isSameAs_8 : decode cX4_isSameAs 8 = .ok (.if_icmp .eq 5, 3) := by decide +kernel
theorem dX4_isSameAs_11 : decode cX4_isSameAs 11 = .ok (.iconst 0, 1) := by decide +kernel
theorem dX4_isSameAs_12 : decode cX4_isSameAs 12 = .ok (.ireturn, 1) := by decide +kernel
theorem dX4_isSameAs_13 : decode cX4_isSameAs 13 = .ok (.iconst 0, 1) := by decide +kernel
theorem dX4_isSameAs_14 : decode cX4_isSameAs 14 = .ok (.istore_n 2, 1) := by decide +kernel
theorem dX4_isSameAs_15 : decode cX4_isSameAs 15 = .ok (.iload_n 2, 1) := by decide +kernel
theorem dX4_isSameAs_16 : decode cX4_isSameAs 16 = .ok (.aload_n 0, 1) := by decide +kernel
theorem dX4_isSameAs_17 : decode cX4_isSameAs 17 = .ok (.getfield 9, 3) := by decide +kernel
theorem dX4_isSameAs_20 : decode cX4_isSameAs 20 = .ok (.if_icmp .ge 25, 3) := by decide +kernel
theorem dX4_isSameAs_23 : decode cX4_isSameAs 23 = .ok (.aload_n 0, 1) := by decide +kernel
theorem dX4_isSameAs_24 : decode cX4_isSameAs 24 = .ok (.getfield 21, 3) := by decide +kernel
theorem dX4_isSameAs_27 : decode cX4_isSameAs 27 = .ok (.iload_n 2, 1) := by decide +kernel
theorem dX4_isSameAs_28 : decode cX4_isSameAs 28 = .ok (.iaload, 1) := by decide +kernel
theorem dX4_isSameAs_29 : decode cX4_isSameAs 29 = .ok (.aload_n 1, 1) := by decide +kernel
theorem dX4_isSameAs_30 : decode cX4_isSameAs 30 = .ok (.iload_n 2, 1) := by decide +kernel
theorem dX4_isSameAs_31 : decode cX4_isSameAs 31 = .ok (.invokevirtual 36, 3) := by decide +kernel
theorem dX4_isSameAs_34 : decode cX4_isSameAs 34 = .ok (.if_icmp .eq 5, 3) := by decide +kernel
theorem dX4_isSameAs_37 : decode cX4_isSameAs 37 = .ok (.iconst 0, 1) := by decide +kernel
theorem dX4_isSameAs_38 : decode cX4_isSameAs 38 = .ok (.ireturn, 1) := by decide +kernel
theorem dX4_isSameAs_39 : decode cX4_isSameAs 39 = .ok (.iinc 2 1, 3) := by decide +kernel
theorem dX4_isSameAs_42 : decode cX4_isSameAs 42 = .ok (.goto (-27), 3) := by decide +kernel
theorem dX4_isSameAs_45 : decode cX4_isSameAs 45 = .ok (.iconst 1, 1) := by decide +kernel
theorem dX4_isSameAs_46 : decode cX4_isSameAs 46 = .ok (.ireturn, 1) := by decide +kernel
theorem dX5_init_0 : decode cX5_init 0 = .ok (.aload_n 0, 1) := by decide +kernel
theorem dX5_init_1 : decode cX5_init 1 = .ok (.invokespecial 3, 3) := by decide +kernel
theorem dX5_init_4 : decode cX5_init 4 = .ok (.aload_n 0, 1) := by decide +kernel
theorem dX5_init_5 : decode cX5_init 5 = .ok (.sipush 500, 3) := by decide +kernel
theorem dX5_init_8 : decode cX5_init 8 = .ok (.anewarray 9, 3) := by decide +kernel
theorem dX5_init_11 : decode cX5_init 11 = .ok (.putfield 11, 3) := by decide +kernel
theorem dX5_init_14 : decode cX5_init 14 = .ok (.aload_n 0, 1) := by decide +kernel
theorem dX5_init_15 : decode cX5_init 15 = .ok (.iconst 0, 1) := by decide +kernel
theorem dX5_init_16 : decode cX5_init 16 = .ok (.putfield 17, 3) := by decide +kernel
theorem dX5_init_19 : decode cX5_init 19 = .ok (.aload_n 0, 1) := by decide +kernel
theorem dX5_init_20 : decode cX5_init 20 = .ok (.iconst 0, 1) := by decide +kernel
theorem dX5_init_21 : decode cX5_init 21 = .ok (.putfield 21, 3) := by decide +kernel
theorem dX5_init_24 : decode cX5_init 24 = .ok (.aload_n 0, 1) := by decide +kernel
theorem dX5_init_25 : decode cX5_init 25 = .ok (.iconst 0, 1) := by decide +kernel
theorem dX5_init_26 : decode cX5_init 26 = .ok (.putfield 24, 3) := by decide +kernel
theorem dX5_init_29 : decode cX5_init 29 = .ok (.iconst 0, 1) := by decide +kernel
theorem dX5_init_30 : decode cX5_init 30 = .ok (.istore_n 1, 1) := by decide +kernel
theorem dX5_init_31 : decode cX5_init 31 = .ok (.iload_n 1, 1) := by decide +kernel
theorem dX5_init_32 : decode cX5_init 32 = .ok (.sipush 500, 3) := by decide +kernel
theorem dX5_init_35 : decode cX5_init 35 = .ok (.if_icmp .ge 22, 3) := by decide +kernel
theorem dX5_init_38 : decode cX5_init 38 = .ok (.aload_n 0, 1) := by decide +kernel
theorem dX5_init_39 : decode cX5_init 39 = .ok (.getfield 11, 3) := by decide +kernel
theorem dX5_init_42 : decode cX5_init 42 = .ok (.iload_n 1, 1) := by decide +kernel
theorem dX5_init_43 : decode cX5_init 43 = .ok (.new 9, 3) := by decide +kernel
theorem dX5_init_46 : decode cX5_init 46 = .ok (.dup, 1) := by decide +kernel
theorem dX5_init_47 : decode cX5_init 47 = .ok (.invokespecial 27, 3) := by decide +kernel
theorem dX5_init_50 : decode cX5_init 50 = .ok (.aastore, 1) := by decide +kernel
theorem dX5_init_51 : decode cX5_init 51 = .ok (.iinc 1 1, 3) := by decide +kernel
theorem dX5_init_54 : decode cX5_init 54 = .ok (.goto (-23), 3) := by decide +kernel
theorem dX5_init_57 : decode cX5_init 57 = .ok (.return_, 1) := by decide +kernel
theorem dX5_place_0 : decode cX5_place 0 = .ok (.iload_n 1, 1) := by decide +kernel
theorem dX5_place_1 : decode cX5_place 1 = .ok (.ifCond .le 23, 3) := by decide +kernel
theorem dX5_place_4 : decode cX5_place 4 = .ok (.iload_n 1, 1) := by decide +kernel
theorem dX5_place_5 : decode cX5_place 5 = .ok (.sipush 500, 3) := by decide +kernel
theorem dX5_place_8 : decode cX5_place 8 = .ok (.if_icmp .ge 16, 3) := by decide +kernel
theorem dX5_place_11 : decode cX5_place 11 = .ok (.aload_n 0, 1) := by decide +kernel
theorem dX5_place_12 : decode cX5_place 12 = .ok (.getfield 17, 3) := by decide +kernel
theorem dX5_place_15 : decode cX5_place 15 = .ok (.iload_n 1, 1) := by decide +kernel
theorem dX5_place_16 : decode cX5_place 16 = .ok (.iadd, 1) := by decide +kernel
theorem dX5_place_17 : decode cX5_place 17 = .ok (.sipush 500, 3) := by decide +kernel
theorem dX5_place_20 : decode cX5_place 20 = .ok (.irem, 1) := by decide +kernel
theorem dX5_place_21 : decode cX5_place 21 = .ok (.goto 7, 3) := by decide +kernel
theorem dX5_place_24 : decode cX5_place 24 = .ok (.aload_n 0, 1) := by decide +kernel
theorem dX5_place_25 : decode cX5_place 25 = .ok (.getfield 17, 3) := by decide +kernel
theorem dX5_place_28 : decode cX5_place 28 = .ok (.ireturn, 1) := by decide +kernel
theorem dX5_isLetter_0 : decode cX5_isLetter 0 = .ok (.iload_n 1, 1) := by decide +kernel
theorem dX5_isLetter_1 : decode cX5_isLetter 1 = .ok (.ifCond .lt 15, 3) := by decide +kernel
theorem dX5_isLetter_4 : decode cX5_isLetter 4 = .ok (.iload_n 1, 1) := by decide +kernel
theorem dX5_isLetter_5 : decode cX5_isLetter 5 = .ok (.aload_n 0, 1) := by decide +kernel
theorem dX5_isLetter_6 : decode cX5_isLetter 6 = .ok (.getfield 21, 3) := by decide +kernel
theorem dX5_isLetter_9 : decode cX5_isLetter 9 = .ok (.if_icmp .ge 7, 3) := by decide +kernel
theorem dX5_isLetter_12 : decode cX5_isLetter 12 = .ok (.iconst 1, 1) := by decide +kernel
theorem dX5_isLetter_13 : decode cX5_isLetter 13 = .ok (.goto 4, 3) := by decide +kernel
theorem dX5_isLetter_16 : decode cX5_isLetter 16 = .ok (.iconst 0, 1) := by decide +kernel
theorem dX5_isLetter_17 : decode cX5_isLetter 17 = .ok (.ireturn, 1) := by decide +kernel
theorem dX5_at_0 : decode cX5_at 0 = .ok (.aload_n 0, 1) := by decide +kernel
theorem dX5_at_1 : decode cX5_at 1 = .ok (.getfield 11, 3) := by decide +kernel
theorem dX5_at_4 : decode cX5_at 4 = .ok (.aload_n 0, 1) := by decide +kernel
theorem dX5_at_5 : decode cX5_at 5 = .ok (.iload_n 1, 1) := by decide +kernel
theorem dX5_at_6 : decode cX5_at 6 = .ok (.invokevirtual 28, 3) := by decide +kernel
theorem dX5_at_9 : decode cX5_at 9 = .ok (.aaload, 1) := by decide +kernel
theorem dX5_at_10 : decode cX5_at 10 = .ok (.areturn, 1) := by decide +kernel
theorem dX5_open_0 : decode cX5_open 0 = .ok (.aload_n 0, 1) := by decide +kernel
theorem dX5_open_1 : decode cX5_open 1 = .ok (.getfield 21, 3) := by decide +kernel
theorem dX5_open_4 : decode cX5_open 4 = .ok (.sipush 500, 3) := by decide +kernel
theorem dX5_open_7 : decode cX5_open 7 = .ok (.if_icmp .lt 15, 3) := by decide +kernel
theorem dX5_open_10 : decode cX5_open 10 = .ok (.aload_n 0, 1) := by decide +kernel
theorem dX5_open_11 : decode cX5_open 11 = .ok (.dup, 1) := by decide +kernel
theorem dX5_open_12 : decode cX5_open 12 = .ok (.getfield 24, 3) := by decide +kernel
theorem dX5_open_15 : decode cX5_open 15 = .ok (.iconst 1, 1) := by decide +kernel
theorem dX5_open_16 : decode cX5_open 16 = .ok (.iadd, 1) := by decide +kernel
theorem dX5_open_17 : decode cX5_open 17 = .ok (.putfield 24, 3) := by decide +kernel
theorem dX5_open_20 : decode cX5_open 20 = .ok (.aconst_null, 1) := by decide +kernel
theorem dX5_open_21 : decode cX5_open 21 = .ok (.areturn, 1) := by decide +kernel
theorem dX5_open_22 : decode cX5_open 22 = .ok (.aload_n 0, 1) := by decide +kernel
theorem dX5_open_23 : decode cX5_open 23 = .ok (.dup, 1) := by decide +kernel
theorem dX5_open_24 : decode cX5_open 24 = .ok (.getfield 21, 3) := by decide +kernel
theorem dX5_open_27 : decode cX5_open 27 = .ok (.iconst 1, 1) := by decide +kernel
theorem dX5_open_28 : decode cX5_open 28 = .ok (.iadd, 1) := by decide +kernel
theorem dX5_open_29 : decode cX5_open 29 = .ok (.putfield 21, 3) := by decide +kernel
theorem dX5_open_32 : decode cX5_open 32 = .ok (.aload_n 0, 1) := by decide +kernel
theorem dX5_open_33 : decode cX5_open 33 = .ok (.getfield 11, 3) := by decide +kernel
theorem dX5_open_36 : decode cX5_open 36 = .ok (.aload_n 0, 1) := by decide +kernel
theorem dX5_open_37 : decode cX5_open 37 = .ok (.aload_n 0, 1) := by decide +kernel
theorem dX5_open_38 : decode cX5_open 38 = .ok (.getfield 21, 3) := by decide +kernel
theorem dX5_open_41 : decode cX5_open 41 = .ok (.iconst 1, 1) := by decide +kernel
theorem dX5_open_42 : decode cX5_open 42 = .ok (.isub, 1) := by decide +kernel
theorem dX5_open_43 : decode cX5_open 43 = .ok (.invokevirtual 28, 3) := by decide +kernel
theorem dX5_open_46 : decode cX5_open 46 = .ok (.aaload, 1) := by decide +kernel
theorem dX5_open_47 : decode cX5_open 47 = .ok (.areturn, 1) := by decide +kernel
theorem dX5_removeAt_0 : decode cX5_removeAt 0 = .ok (.aload_n 0, 1) := by decide +kernel
theorem dX5_removeAt_1 : decode cX5_removeAt 1 = .ok (.iload_n 1, 1) := by decide +kernel
theorem dX5_removeAt_2 : decode cX5_removeAt 2 = .ok (.invokevirtual 32, 3) := by decide +kernel
theorem dX5_removeAt_5 : decode cX5_removeAt 5 = .ok (.ifCond .ne 4, 3) := by decide +kernel
theorem dX5_removeAt_8 : decode cX5_removeAt 8 = .ok (.return_, 1) := by decide +kernel
theorem dX5_removeAt_9 : decode cX5_removeAt 9 = .ok (.iload_n 1, 1) := by decide +kernel
theorem dX5_removeAt_10 : decode cX5_removeAt 10 = .ok (.ifCond .ne 15, 3) := by decide +kernel
theorem dX5_removeAt_13 : decode cX5_removeAt 13 = .ok (.aload_n 0, 1) := by decide +kernel
theorem dX5_removeAt_14 : decode cX5_removeAt 14 = .ok (.aload_n 0, 1) := by decide +kernel
theorem dX5_removeAt_15 : decode cX5_removeAt 15 = .ok (.iconst 1, 1) := by decide +kernel
theorem dX5_removeAt_16 : decode cX5_removeAt 16 = .ok (.invokevirtual 28, 3) := by decide +kernel
theorem dX5_removeAt_19 : decode cX5_removeAt 19 = .ok (.putfield 17, 3) := by decide +kernel
theorem dX5_removeAt_22 : decode cX5_removeAt 22 = .ok (.goto 60, 3) := by decide +kernel
theorem dX5_removeAt_25 : decode cX5_removeAt 25 = .ok (.aload_n 0, 1) := by decide +kernel
theorem dX5_removeAt_26 : decode cX5_removeAt 26 = .ok (.iload_n 1, 1) := by decide +kernel
theorem dX5_removeAt_27 : decode cX5_removeAt 27 = .ok (.invokevirtual 36, 3) := by decide +kernel
theorem dX5_removeAt_30 : decode cX5_removeAt 30 = .ok (.astore_n 2, 1) := by decide +kernel
theorem dX5_removeAt_31 : decode cX5_removeAt 31 = .ok (.iload_n 1, 1) := by decide +kernel
theorem dX5_removeAt_32 : decode cX5_removeAt 32 = .ok (.istore_n 3, 1) := by decide +kernel
theorem dX5_removeAt_33 : decode cX5_removeAt 33 = .ok (.iload_n 3, 1) := by decide +kernel
theorem dX5_removeAt_34 : decode cX5_removeAt 34 = .ok (.iconst 1, 1) := by decide +kernel
theorem dX5_removeAt_35 : decode cX5_removeAt 35 = .ok (.iadd, 1) := by decide +kernel
theorem dX5_removeAt_36 : decode cX5_removeAt 36 = .ok (.aload_n 0, 1) := by decide +kernel
theorem dX5_removeAt_37 : decode cX5_removeAt 37 = .ok (.getfield 21, 3) := by decide +kernel
theorem dX5_removeAt_40 : decode cX5_removeAt 40 = .ok (.if_icmp .ge 26, 3) := by decide +kernel
theorem dX5_removeAt_43 : decode cX5_removeAt 43 = .ok (.aload_n 0, 1) := by decide +kernel
theorem dX5_removeAt_44 : decode cX5_removeAt 44 = .ok (.getfield 11, 3) := by decide +kernel
theorem dX5_removeAt_47 : decode cX5_removeAt 47 = .ok (.aload_n 0, 1) := by decide +kernel
theorem dX5_removeAt_48 : decode cX5_removeAt 48 = .ok (.iload_n 3, 1) := by decide +kernel
theorem dX5_removeAt_49 : decode cX5_removeAt 49 = .ok (.invokevirtual 28, 3) := by decide +kernel
theorem dX5_removeAt_52 : decode cX5_removeAt 52 = .ok (.aload_n 0, 1) := by decide +kernel
theorem dX5_removeAt_53 : decode cX5_removeAt 53 = .ok (.iload_n 3, 1) := by decide +kernel
theorem dX5_removeAt_54 : decode cX5_removeAt 54 = .ok (.iconst 1, 1) := by decide +kernel
theorem dX5_removeAt_55 : decode cX5_removeAt 55 = .ok (.iadd, 1) := by decide +kernel
theorem dX5_removeAt_56 : decode cX5_removeAt 56 = .ok (.invokevirtual 36, 3) := by decide +kernel
theorem dX5_removeAt_59 : decode cX5_removeAt 59 = .ok (.aastore, 1) := by decide +kernel
theorem dX5_removeAt_60 : decode cX5_removeAt 60 = .ok (.iinc 3 1, 3) := by decide +kernel
theorem dX5_removeAt_63 : decode cX5_removeAt 63 = .ok (.goto (-30), 3) := by decide +kernel
theorem dX5_removeAt_66 : decode cX5_removeAt 66 = .ok (.aload_n 0, 1) := by decide +kernel
theorem dX5_removeAt_67 : decode cX5_removeAt 67 = .ok (.getfield 11, 3) := by decide +kernel
theorem dX5_removeAt_70 : decode cX5_removeAt 70 = .ok (.aload_n 0, 1) := by decide +kernel
theorem dX5_removeAt_71 : decode cX5_removeAt 71 = .ok (.aload_n 0, 1) := by decide +kernel
theorem dX5_removeAt_72 : decode cX5_removeAt 72 = .ok (.getfield 21, 3) := by decide +kernel
theorem dX5_removeAt_75 : decode cX5_removeAt 75 = .ok (.iconst 1, 1) := by decide +kernel
theorem dX5_removeAt_76 : decode cX5_removeAt 76 = .ok (.isub, 1) := by decide +kernel
theorem dX5_removeAt_77 : decode cX5_removeAt 77 = .ok (.invokevirtual 28, 3) := by decide +kernel
theorem dX5_removeAt_80 : decode cX5_removeAt 80 = .ok (.aload_n 2, 1) := by decide +kernel
theorem dX5_removeAt_81 : decode cX5_removeAt 81 = .ok (.aastore, 1) := by decide +kernel
theorem dX5_removeAt_82 : decode cX5_removeAt 82 = .ok (.aload_n 0, 1) := by decide +kernel
theorem dX5_removeAt_83 : decode cX5_removeAt 83 = .ok (.dup, 1) := by decide +kernel
theorem dX5_removeAt_84 : decode cX5_removeAt 84 = .ok (.getfield 21, 3) := by decide +kernel
theorem dX5_removeAt_87 : decode cX5_removeAt 87 = .ok (.iconst 1, 1) := by decide +kernel
theorem dX5_removeAt_88 : decode cX5_removeAt 88 = .ok (.isub, 1) := by decide +kernel
theorem dX5_removeAt_89 : decode cX5_removeAt 89 = .ok (.putfield 21, 3) := by decide +kernel
theorem dX5_removeAt_92 : decode cX5_removeAt 92 = .ok (.return_, 1) := by decide +kernel
theorem dX5_removeTo_0 : decode cX5_removeTo 0 = .ok (.iconst 0, 1) := by decide +kernel
theorem dX5_removeTo_1 : decode cX5_removeTo 1 = .ok (.istore_n 2, 1) := by decide +kernel
theorem dX5_removeTo_2 : decode cX5_removeTo 2 = .ok (.iconst 0, 1) := by decide +kernel
theorem dX5_removeTo_3 : decode cX5_removeTo 3 = .ok (.istore_n 3, 1) := by decide +kernel
theorem dX5_removeTo_4 : decode cX5_removeTo 4 = .ok (.iload_n 3, 1) := by decide +kernel
theorem dX5_removeTo_5 : decode cX5_removeTo 5 = .ok (.aload_n 0, 1) := by decide +kernel
theorem dX5_removeTo_6 : decode cX5_removeTo 6 = .ok (.getfield 21, 3) := by decide +kernel
theorem dX5_removeTo_9 : decode cX5_removeTo 9 = .ok (.if_icmp .ge 55, 3) := by decide +kernel
theorem dX5_removeTo_12 : decode cX5_removeTo 12 = .ok (.aload_n 0, 1) := by decide +kernel
theorem dX5_removeTo_13 : decode cX5_removeTo 13 = .ok (.iload_n 3, 1) := by decide +kernel
theorem dX5_removeTo_14 : decode cX5_removeTo 14 = .ok (.invokevirtual 36, 3) := by decide +kernel
theorem dX5_removeTo_17 : decode cX5_removeTo 17 = .ok (.astore 4, 2) := by decide +kernel
theorem dX5_removeTo_19 : decode cX5_removeTo 19 = .ok (.aload 4, 2) := by decide +kernel
theorem dX5_removeTo_21 : decode cX5_removeTo 21 = .ok (.getfield 40, 3) := by decide +kernel
theorem dX5_removeTo_24 : decode cX5_removeTo 24 = .ok (.iload_n 1, 1) := by decide +kernel
theorem dX5_removeTo_25 : decode cX5_removeTo 25 = .ok (.if_icmp .eq 33, 3) := by decide +kernel
theorem dX5_removeTo_28 : decode cX5_removeTo 28 = .ok (.aload_n 0, 1) := by decide +kernel
theorem dX5_removeTo_29 : decode cX5_removeTo 29 = .ok (.getfield 11, 3) := by decide +kernel
theorem dX5_removeTo_32 : decode cX5_removeTo 32 = .ok (.aload_n 0, 1) := by decide +kernel
theorem dX5_removeTo_33 : decode cX5_removeTo 33 = .ok (.iload_n 3, 1) := by decide +kernel
theorem dX5_removeTo_34 : decode cX5_removeTo 34 = .ok (.invokevirtual 28, 3) := by decide +kernel
theorem dX5_removeTo_37 : decode cX5_removeTo 37 = .ok (.aload_n 0, 1) := by decide +kernel
theorem dX5_removeTo_38 : decode cX5_removeTo 38 = .ok (.iload_n 2, 1) := by decide +kernel
theorem dX5_removeTo_39 : decode cX5_removeTo 39 = .ok (.invokevirtual 36, 3) := by decide +kernel
theorem dX5_removeTo_42 : decode cX5_removeTo 42 = .ok (.aastore, 1) := by decide +kernel
theorem dX5_removeTo_43 : decode cX5_removeTo 43 = .ok (.aload_n 0, 1) := by decide +kernel
theorem dX5_removeTo_44 : decode cX5_removeTo 44 = .ok (.getfield 11, 3) := by decide +kernel
theorem dX5_removeTo_47 : decode cX5_removeTo 47 = .ok (.aload_n 0, 1) := by decide +kernel
theorem dX5_removeTo_48 : decode cX5_removeTo 48 = .ok (.iload_n 2, 1) := by decide +kernel
theorem dX5_removeTo_49 : decode cX5_removeTo 49 = .ok (.invokevirtual 28, 3) := by decide +kernel
theorem dX5_removeTo_52 : decode cX5_removeTo 52 = .ok (.aload 4, 2) := by decide +kernel
theorem dX5_removeTo_54 : decode cX5_removeTo 54 = .ok (.aastore, 1) := by decide +kernel
theorem dX5_removeTo_55 : decode cX5_removeTo 55 = .ok (.iinc 2 1, 3) := by decide +kernel
theorem dX5_removeTo_58 : decode cX5_removeTo 58 = .ok (.iinc 3 1, 3) := by decide +kernel
theorem dX5_removeTo_61 : decode cX5_removeTo 61 = .ok (.goto (-57), 3) := by decide +kernel
theorem dX5_removeTo_64 : decode cX5_removeTo 64 = .ok (.aload_n 0, 1) := by decide +kernel
theorem dX5_removeTo_65 : decode cX5_removeTo 65 = .ok (.getfield 21, 3) := by decide +kernel
theorem dX5_removeTo_68 : decode cX5_removeTo 68 = .ok (.iload_n 2, 1) := by decide +kernel
theorem dX5_removeTo_69 : decode cX5_removeTo 69 = .ok (.isub, 1) := by decide +kernel
theorem dX5_removeTo_70 : decode cX5_removeTo 70 = .ok (.istore_n 3, 1) := by decide +kernel
theorem dX5_removeTo_71 : decode cX5_removeTo 71 = .ok (.aload_n 0, 1) := by decide +kernel
theorem dX5_removeTo_72 : decode cX5_removeTo 72 = .ok (.iload_n 2, 1) := by decide +kernel
theorem dX5_removeTo_73 : decode cX5_removeTo 73 = .ok (.putfield 21, 3) := by decide +kernel
theorem dX5_removeTo_76 : decode cX5_removeTo 76 = .ok (.iload_n 3, 1) := by decide +kernel
theorem dX5_removeTo_77 : decode cX5_removeTo 77 = .ok (.ireturn, 1) := by decide +kernel
theorem dX5_canCome_0 : decode cX5_canCome 0 = .ok (.aload_n 0, 1) := by decide +kernel
theorem dX5_canCome_1 : decode cX5_canCome 1 = .ok (.iload_n 1, 1) := by decide +kernel
theorem dX5_canCome_2 : decode cX5_canCome 2 = .ok (.invokevirtual 36, 3) := by decide +kernel
theorem dX5_canCome_5 : decode cX5_canCome 5 = .ok (.astore_n 2, 1) := by decide +kernel
theorem dX5_canCome_6 : decode cX5_canCome 6 = .ok (.aload_n 0, 1) := by decide +kernel
theorem dX5_canCome_7 : decode cX5_canCome 7 = .ok (.iload_n 1, 1) := by decide +kernel
theorem dX5_canCome_8 : decode cX5_canCome 8 = .ok (.aload_n 2, 1) := by decide +kernel
theorem dX5_canCome_9 : decode cX5_canCome 9 = .ok (.getfield 43, 3) := by decide +kernel
theorem dX5_canCome_12 : decode cX5_canCome 12 = .ok (.aload_n 2, 1) := by decide +kernel
theorem dX5_canCome_13 : decode cX5_canCome 13 = .ok (.getfield 40, 3) := by decide +kernel
theorem dX5_canCome_16 : decode cX5_canCome 16 = .ok (.invokevirtual 46, 3) := by decide +kernel
theorem dX5_canCome_19 : decode cX5_canCome 19 = .ok (.ifCond .ne 7, 3) := by decide +kernel
theorem dX5_canCome_22 : decode cX5_canCome 22 = .ok (.iconst 1, 1) := by decide +kernel
theorem dX5_canCome_23 : decode cX5_canCome 23 = .ok (.goto 4, 3) := by decide +kernel
theorem dX5_canCome_26 : decode cX5_canCome 26 = .ok (.iconst 0, 1) := by decide +kernel
theorem dX5_canCome_27 : decode cX5_canCome 27 = .ok (.ireturn, 1) := by decide +kernel
theorem dX5_hasAhead_0 : decode cX5_hasAhead 0 = .ok (.iconst 0, 1) := by decide +kernel
theorem dX5_hasAhead_1 : decode cX5_hasAhead 1 = .ok (.istore 4, 2) := by decide +kernel
theorem dX5_hasAhead_3 : decode cX5_hasAhead 3 = .ok (.iload 4, 2) := by decide +kernel
theorem dX5_hasAhead_5 : decode cX5_hasAhead 5 = .ok (.iload_n 1, 1) := by decide +kernel
theorem dX5_hasAhead_6 : decode cX5_hasAhead 6 = .ok (.if_icmp .ge 46, 3) := by decide +kernel
theorem dX5_hasAhead_9 : decode cX5_hasAhead 9 = .ok (.iload 4, 2) := by decide +kernel
theorem dX5_hasAhead_11 : decode cX5_hasAhead 11 = .ok (.aload_n 0, 1) := by decide +kernel
theorem dX5_hasAhead_12 : decode cX5_hasAhead 12 = .ok (.getfield 21, 3) := by decide +kernel
theorem dX5_hasAhead_15 : decode cX5_hasAhead 15 = .ok (.if_icmp .ge 37, 3) := by decide +kernel
theorem dX5_hasAhead_18 : decode cX5_hasAhead 18 = .ok (.aload_n 0, 1) := by decide +kernel
theorem dX5_hasAhead_19 : decode cX5_hasAhead 19 = .ok (.iload 4, 2) := by decide +kernel
theorem dX5_hasAhead_21 : decode cX5_hasAhead 21 = .ok (.invokevirtual 36, 3) := by decide +kernel
theorem dX5_hasAhead_24 : decode cX5_hasAhead 24 = .ok (.astore 5, 2) := by decide +kernel
theorem dX5_hasAhead_26 : decode cX5_hasAhead 26 = .ok (.aload 5, 2) := by decide +kernel
theorem dX5_hasAhead_28 : decode cX5_hasAhead 28 = .ok (.getfield 43, 3) := by decide +kernel
theorem dX5_hasAhead_31 : decode cX5_hasAhead 31 = .ok (.iload_n 2, 1) := by decide +kernel
theorem dX5_hasAhead_32 : decode cX5_hasAhead 32 = .ok (.if_icmp .ne 14, 3) := by decide +kernel
theorem dX5_hasAhead_35 : decode cX5_hasAhead 35 = .ok (.aload 5, 2) := by decide +kernel
theorem dX5_hasAhead_37 : decode cX5_hasAhead 37 = .ok (.getfield 40, 3) := by decide +kernel
theorem dX5_hasAhead_40 : decode cX5_hasAhead 40 = .ok (.iload_n 3, 1) := by decide +kernel
theorem dX5_hasAhead_41 : decode cX5_hasAhead 41 = .ok (.if_icmp .ne 5, 3) := by decide +kernel
theorem dX5_hasAhead_44 : decode cX5_hasAhead 44 = .ok (.iconst 1, 1) := by decide +kernel
theorem dX5_hasAhead_45 : decode cX5_hasAhead 45 = .ok (.ireturn, 1) := by decide +kernel
theorem dX5_hasAhead_46 : decode cX5_hasAhead 46 = .ok (.iinc 4 1, 3) := by decide +kernel
theorem dX5_hasAhead_49 : decode cX5_hasAhead 49 = .ok (.goto (-46), 3) := by decide +kernel
theorem dX5_hasAhead_52 : decode cX5_hasAhead 52 = .ok (.iconst 0, 1) := by decide +kernel
theorem dX5_hasAhead_53 : decode cX5_hasAhead 53 = .ok (.ireturn, 1) := by decide +kernel
theorem dX5_copyFrom_0 : decode cX5_copyFrom 0 = .ok (.aload_n 0, 1) := by decide +kernel
theorem dX5_copyFrom_1 : decode cX5_copyFrom 1 = .ok (.iconst 0, 1) := by decide +kernel
theorem dX5_copyFrom_2 : decode cX5_copyFrom 2 = .ok (.putfield 17, 3) := by decide +kernel
theorem dX5_copyFrom_5 : decode cX5_copyFrom 5 = .ok (.aload_n 0, 1) := by decide +kernel
theorem dX5_copyFrom_6 : decode cX5_copyFrom 6 = .ok (.aload_n 1, 1) := by decide +kernel
theorem dX5_copyFrom_7 : decode cX5_copyFrom 7 = .ok (.getfield 21, 3) := by decide +kernel
theorem dX5_copyFrom_10 : decode cX5_copyFrom 10 = .ok (.putfield 21, 3) := by decide +kernel
theorem dX5_copyFrom_13 : decode cX5_copyFrom 13 = .ok (.aload_n 0, 1) := by decide +kernel
theorem dX5_copyFrom_14 : decode cX5_copyFrom 14 = .ok (.aload_n 1, 1) := by decide +kernel
theorem dX5_copyFrom_15 : decode cX5_copyFrom 15 = .ok (.getfield 24, 3) := by decide +kernel
theorem dX5_copyFrom_18 : decode cX5_copyFrom 18 = .ok (.putfield 24, 3) := by decide +kernel
theorem dX5_copyFrom_21 : decode cX5_copyFrom 21 = .ok (.iconst 0, 1) := by decide +kernel
theorem dX5_copyFrom_22 : decode cX5_copyFrom 22 = .ok (.istore_n 2, 1) := by decide +kernel
theorem dX5_copyFrom_23 : decode cX5_copyFrom 23 = .ok (.iload_n 2, 1) := by decide +kernel
theorem dX5_copyFrom_24 : decode cX5_copyFrom 24 = .ok (.aload_n 0, 1) := by decide +kernel
theorem dX5_copyFrom_25 : decode cX5_copyFrom 25 = .ok (.getfield 21, 3) := by decide +kernel
theorem dX5_copyFrom_28 : decode cX5_copyFrom 28 = .ok (.if_icmp .ge 22, 3) := by decide +kernel
theorem dX5_copyFrom_31 : decode cX5_copyFrom 31 = .ok (.aload_n 0, 1) := by decide +kernel
theorem dX5_copyFrom_32 : decode cX5_copyFrom 32 = .ok (.iload_n 2, 1) := by decide +kernel
theorem dX5_copyFrom_33 : decode cX5_copyFrom 33 = .ok (.invokevirtual 36, 3) := by decide +kernel
theorem dX5_copyFrom_36 : decode cX5_copyFrom 36 = .ok (.aload_n 1, 1) := by decide +kernel
theorem dX5_copyFrom_37 : decode cX5_copyFrom 37 = .ok (.iload_n 2, 1) := by decide +kernel
theorem dX5_copyFrom_38 : decode cX5_copyFrom 38 = .ok (.invokevirtual 36, 3) := by decide +kernel
theorem dX5_copyFrom_41 : decode cX5_copyFrom 41 = .ok (.invokevirtual 50, 3) := by decide +kernel
theorem dX5_copyFrom_44 : decode cX5_copyFrom 44 = .ok (.iinc 2 1, 3) := by decide +kernel
theorem dX5_copyFrom_47 : decode cX5_copyFrom 47 = .ok (.goto (-24), 3) := by decide +kernel
theorem dX5_copyFrom_50 : decode cX5_copyFrom 50 = .ok (.return_, 1) := by decide +kernel
theorem dX6_init_0 : decode cX6_init 0 = .ok (.aload_n 0, 1) := by decide +kernel
theorem dX6_init_1 : decode cX6_init 1 = .ok (.invokespecial 1, 3) := by decide +kernel
theorem dX6_init_4 : decode cX6_init 4 = .ok (.aload_n 0, 1) := by decide +kernel
theorem dX6_init_5 : decode cX6_init 5 = .ok (.iconst 3, 1) := by decide +kernel
theorem dX6_init_6 : decode cX6_init 6 = .ok (.putfield 7, 3) := by decide +kernel
theorem dX6_init_9 : decode cX6_init 9 = .ok (.aload_n 0, 1) := by decide +kernel
theorem dX6_init_10 : decode cX6_init 10 = .ok (.iconst 5, 1) := by decide +kernel
theorem dX6_init_11 : decode cX6_init 11 = .ok (.putfield 13, 3) := by decide +kernel
theorem dX6_init_14 : decode cX6_init 14 = .ok (.aload_n 0, 1) := by decide +kernel
theorem dX6_init_15 : decode cX6_init 15 = .ok (.iconst 4, 1) := by decide +kernel
theorem dX6_init_16 : decode cX6_init 16 = .ok (.putfield 16, 3) := by decide +kernel
theorem dX6_init_19 : decode cX6_init 19 = .ok (.aload_n 0, 1) := by decide +kernel
theorem dX6_init_20 : decode cX6_init 20 = .ok (.iconst 2, 1) := by decide +kernel
theorem dX6_init_21 : decode cX6_init 21 = .ok (.putfield 19, 3) := by decide +kernel
theorem dX6_init_24 : decode cX6_init 24 = .ok (.aload_n 0, 1) := by decide +kernel
theorem dX6_init_25 : decode cX6_init 25 = .ok (.iconst 4, 1) := by decide +kernel
theorem dX6_init_26 : decode cX6_init 26 = .ok (.putfield 22, 3) := by decide +kernel
theorem dX6_init_29 : decode cX6_init 29 = .ok (.return_, 1) := by decide +kernel
theorem dX6_copyFrom_0 : decode cX6_copyFrom 0 = .ok (.aload_n 0, 1) := by decide +kernel
theorem dX6_copyFrom_1 : decode cX6_copyFrom 1 = .ok (.aload_n 1, 1) := by decide +kernel
theorem dX6_copyFrom_2 : decode cX6_copyFrom 2 = .ok (.getfield 7, 3) := by decide +kernel
theorem dX6_copyFrom_5 : decode cX6_copyFrom 5 = .ok (.putfield 7, 3) := by decide +kernel
theorem dX6_copyFrom_8 : decode cX6_copyFrom 8 = .ok (.aload_n 0, 1) := by decide +kernel
theorem dX6_copyFrom_9 : decode cX6_copyFrom 9 = .ok (.aload_n 1, 1) := by decide +kernel
theorem dX6_copyFrom_10 : decode cX6_copyFrom 10 = .ok (.getfield 13, 3) := by decide +kernel
theorem dX6_copyFrom_13 : decode cX6_copyFrom 13 = .ok (.putfield 13, 3) := by decide +kernel
theorem dX6_copyFrom_16 : decode cX6_copyFrom 16 = .ok (.aload_n 0, 1) := by decide +kernel
theorem dX6_copyFrom_17 : decode cX6_copyFrom 17 = .ok (.aload_n 1, 1) := by decide +kernel
theorem dX6_copyFrom_18 : decode cX6_copyFrom 18 = .ok (.getfield 16, 3) := by decide +kernel
theorem dX6_copyFrom_21 : decode cX6_copyFrom 21 = .ok (.putfield 16, 3) := by decide +kernel
theorem dX6_copyFrom_24 : decode cX6_copyFrom 24 = .ok (.aload_n 0, 1) := by decide +kernel
theorem dX6_copyFrom_25 : decode cX6_copyFrom 25 = .ok (.aload_n 1, 1) := by decide +kernel
theorem dX6_copyFrom_26 : decode cX6_copyFrom 26 = .ok (.getfield 19, 3) := by decide +kernel
theorem dX6_copyFrom_29 : decode cX6_copyFrom 29 = .ok (.putfield 19, 3) := by decide +kernel
theorem dX6_copyFrom_32 : decode cX6_copyFrom 32 = .ok (.aload_n 0, 1) := by decide +kernel
theorem dX6_copyFrom_33 : decode cX6_copyFrom 33 = .ok (.aload_n 1, 1) := by decide +kernel
theorem dX6_copyFrom_34 : decode cX6_copyFrom 34 = .ok (.getfield 22, 3) := by decide +kernel
theorem dX6_copyFrom_37 : decode cX6_copyFrom 37 = .ok (.putfield 22, 3) := by decide +kernel
theorem dX6_copyFrom_40 : decode cX6_copyFrom 40 = .ok (.return_, 1) := by decide +kernel
