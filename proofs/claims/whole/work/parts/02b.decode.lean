theorem dX7_init_0 : decode cX7_init 0 = .ok (.aload_n 0, 1) := by decide +kernel
theorem dX7_init_1 : decode cX7_init 1 = .ok (.invokespecial 3, 3) := by decide +kernel
theorem dX7_init_4 : decode cX7_init 4 = .ok (.aload_n 0, 1) := by decide +kernel
theorem dX7_init_5 : decode cX7_init 5 = .ok (.aload_n 1, 1) := by decide +kernel
theorem dX7_init_6 : decode cX7_init 6 = .ok (.putfield 9, 3) := by decide +kernel
theorem dX7_init_9 : decode cX7_init 9 = .ok (.return_, 1) := by decide +kernel
theorem dX7_send_0 : decode cX7_send 0 = .ok (.aload_n 0, 1) := by decide +kernel
theorem dX7_send_1 : decode cX7_send 1 = .ok (.getfield 9, 3) := by decide +kernel
theorem dX7_send_4 : decode cX7_send 4 = .ok (.aload_n 1, 1) := by decide +kernel
theorem dX7_send_5 : decode cX7_send 5 = .ok (.getfield 15, 3) := by decide +kernel
theorem dX7_send_8 : decode cX7_send 8 = .ok (.iload_n 2, 1) := by decide +kernel
theorem dX7_send_9 : decode cX7_send 9 = .ok (.iload_n 3, 1) := by decide +kernel
theorem dX7_send_10 : decode cX7_send 10 = .ok (.iload 4, 2) := by decide +kernel
theorem dX7_send_12 : decode cX7_send 12 = .ok (.iload 5, 2) := by decide +kernel
theorem dX7_send_14 : decode cX7_send 14 = .ok (.invokevirtual 21, 3) := by decide +kernel
theorem dX7_send_17 : decode cX7_send 17 = .ok (.pop, 1) := by decide +kernel
theorem dX7_send_18 : decode cX7_send 18 = .ok (.return_, 1) := by decide +kernel
theorem dX7_hear_0 : decode cX7_hear 0 = .ok (.aload_n 1, 1) := by decide +kernel
theorem dX7_hear_1 : decode cX7_hear 1 = .ok (.iload_n 2, 1) := by decide +kernel
theorem dX7_hear_2 : decode cX7_hear 2 = .ok (.iload_n 3, 1) := by decide +kernel
theorem dX7_hear_3 : decode cX7_hear 3 = .ok (.invokevirtual 27, 3) := by decide +kernel
theorem dX7_hear_6 : decode cX7_hear 6 = .ok (.iconst 0, 1) := by decide +kernel
theorem dX7_hear_7 : decode cX7_hear 7 = .ok (.istore 5, 2) := by decide +kernel
theorem dX7_hear_9 : decode cX7_hear 9 = .ok (.iload 5, 2) := by decide +kernel
theorem dX7_hear_11 : decode cX7_hear 11 = .ok (.aload_n 1, 1) := by decide +kernel
theorem dX7_hear_12 : decode cX7_hear 12 = .ok (.getfield 31, 3) := by decide +kernel
theorem dX7_hear_15 : decode cX7_hear 15 = .ok (.getfield 35, 3) := by decide +kernel
theorem dX7_hear_18 : decode cX7_hear 18 = .ok (.if_icmp .ge 49, 3) := by decide +kernel
theorem dX7_hear_21 : decode cX7_hear 21 = .ok (.aload_n 1, 1) := by decide +kernel
theorem dX7_hear_22 : decode cX7_hear 22 = .ok (.getfield 31, 3) := by decide +kernel
theorem dX7_hear_25 : decode cX7_hear 25 = .ok (.iload 5, 2) := by decide +kernel
theorem dX7_hear_27 : decode cX7_hear 27 = .ok (.invokevirtual 40, 3) := by decide +kernel
theorem dX7_hear_30 : decode cX7_hear 30 = .ok (.istore 6, 2) := by decide +kernel
theorem dX7_hear_32 : decode cX7_hear 32 = .ok (.iload 6, 2) := by decide +kernel
theorem dX7_hear_34 : decode cX7_hear 34 = .ok (.iload 4, 2) := by decide +kernel
theorem dX7_hear_36 : decode cX7_hear 36 = .ok (.if_icmp .eq 25, 3) := by decide +kernel
theorem dX7_hear_39 : decode cX7_hear 39 = .ok (.aload_n 1, 1) := by decide +kernel
theorem dX7_hear_40 : decode cX7_hear 40 = .ok (.iload 6, 2) := by decide +kernel
theorem dX7_hear_42 : decode cX7_hear 42 = .ok (.invokevirtual 44, 3) := by decide +kernel
theorem dX7_hear_45 : decode cX7_hear 45 = .ok (.ifCond .ne 16, 3) := by decide +kernel
theorem dX7_hear_48 : decode cX7_hear 48 = .ok (.aload_n 0, 1) := by decide +kernel
theorem dX7_hear_49 : decode cX7_hear 49 = .ok (.aload_n 1, 1) := by decide +kernel
theorem dX7_hear_50 : decode cX7_hear 50 = .ok (.iload 6, 2) := by decide +kernel
theorem dX7_hear_52 : decode cX7_hear 52 = .ok (.bipush 9, 2) := by decide +kernel
theorem dX7_hear_54 : decode cX7_hear 54 = .ok (.iload_n 2, 1) := by decide +kernel
theorem dX7_hear_55 : decode cX7_hear 55 = .ok (.iload_n 3, 1) := by decide +kernel
theorem dX7_hear_56 : decode cX7_hear 56 = .ok (.iconst 1, 1) := by decide +kernel
theorem dX7_hear_57 : decode cX7_hear 57 = .ok (.iadd, 1) := by decide +kernel
theorem dX7_hear_58 : decode cX7_hear 58 = .ok (.invokevirtual 48, 3) := by decide +kernel
theorem dX7_hear_61 : decode cX7_hear 61 = .ok (.iinc 5 1, 3) := by decide +kernel
theorem dX7_hear_64 : decode cX7_hear 64 = .ok (.goto (-55), 3) := by decide +kernel
theorem dX7_hear_67 : decode cX7_hear 67 = .ok (.iconst 0, 1) := by decide +kernel
theorem dX7_hear_68 : decode cX7_hear 68 = .ok (.istore 5, 2) := by decide +kernel
theorem dX7_hear_70 : decode cX7_hear 70 = .ok (.iload 5, 2) := by decide +kernel
theorem dX7_hear_72 : decode cX7_hear 72 = .ok (.aload_n 1, 1) := by decide +kernel
theorem dX7_hear_73 : decode cX7_hear 73 = .ok (.getfield 31, 3) := by decide +kernel
theorem dX7_hear_76 : decode cX7_hear 76 = .ok (.getfield 35, 3) := by decide +kernel
theorem dX7_hear_79 : decode cX7_hear 79 = .ok (.if_icmp .ge 47, 3) := by decide +kernel
theorem dX7_hear_82 : decode cX7_hear 82 = .ok (.aload_n 1, 1) := by decide +kernel
theorem dX7_hear_83 : decode cX7_hear 83 = .ok (.getfield 31, 3) := by decide +kernel
theorem dX7_hear_86 : decode cX7_hear 86 = .ok (.iload 5, 2) := by decide +kernel
theorem dX7_hear_88 : decode cX7_hear 88 = .ok (.invokevirtual 40, 3) := by decide +kernel
theorem dX7_hear_91 : decode cX7_hear 91 = .ok (.istore 6, 2) := by decide +kernel
theorem dX7_hear_93 : decode cX7_hear 93 = .ok (.iload 6, 2) := by decide +kernel
theorem dX7_hear_95 : decode cX7_hear 95 = .ok (.iload 4, 2) := by decide +kernel
theorem dX7_hear_97 : decode cX7_hear 97 = .ok (.if_icmp .eq 23, 3) := by decide +kernel
theorem dX7_hear_100 : decode cX7_hear 100 = .ok (.aload_n 1, 1) := by decide +kernel
theorem dX7_hear_101 : decode cX7_hear 101 = .ok (.iload 6, 2) := by decide +kernel
theorem dX7_hear_103 : decode cX7_hear 103 = .ok (.invokevirtual 44, 3) := by decide +kernel
theorem dX7_hear_106 : decode cX7_hear 106 = .ok (.ifCond .eq 14, 3) := by decide +kernel
theorem dX7_hear_109 : decode cX7_hear 109 = .ok (.aload_n 0, 1) := by decide +kernel
theorem dX7_hear_110 : decode cX7_hear 110 = .ok (.aload_n 1, 1) := by decide +kernel
theorem dX7_hear_111 : decode cX7_hear 111 = .ok (.iload 6, 2) := by decide +kernel
theorem dX7_hear_113 : decode cX7_hear 113 = .ok (.bipush 10, 2) := by decide +kernel
theorem dX7_hear_115 : decode cX7_hear 115 = .ok (.iload_n 2, 1) := by decide +kernel
theorem dX7_hear_116 : decode cX7_hear 116 = .ok (.iconst 0, 1) := by decide +kernel
theorem dX7_hear_117 : decode cX7_hear 117 = .ok (.invokevirtual 48, 3) := by decide +kernel
theorem dX7_hear_120 : decode cX7_hear 120 = .ok (.iinc 5 1, 3) := by decide +kernel
theorem dX7_hear_123 : decode cX7_hear 123 = .ok (.goto (-53), 3) := by decide +kernel
theorem dX7_hear_126 : decode cX7_hear 126 = .ok (.return_, 1) := by decide +kernel
theorem dX7_onTell_0 : decode cX7_onTell 0 = .ok (.aload_n 1, 1) := by decide +kernel
theorem dX7_onTell_1 : decode cX7_onTell 1 = .ok (.getfield 31, 3) := by decide +kernel
theorem dX7_onTell_4 : decode cX7_onTell 4 = .ok (.iload_n 2, 1) := by decide +kernel
theorem dX7_onTell_5 : decode cX7_onTell 5 = .ok (.invokevirtual 51, 3) := by decide +kernel
theorem dX7_onTell_8 : decode cX7_onTell 8 = .ok (.ifCond .ne 4, 3) := by decide +kernel
theorem dX7_onTell_11 : decode cX7_onTell 11 = .ok (.return_, 1) := by decide +kernel
theorem dX7_onTell_12 : decode cX7_onTell 12 = .ok (.aload_n 1, 1) := by decide +kernel
theorem dX7_onTell_13 : decode cX7_onTell 13 = .ok (.iload_n 3, 1) := by decide +kernel
theorem dX7_onTell_14 : decode cX7_onTell 14 = .ok (.invokevirtual 54, 3) := by decide +kernel
theorem dX7_onTell_17 : decode cX7_onTell 17 = .ok (.ifCond .eq 21, 3) := by decide +kernel
theorem dX7_onTell_20 : decode cX7_onTell 20 = .ok (.aload_n 1, 1) := by decide +kernel
theorem dX7_onTell_21 : decode cX7_onTell 21 = .ok (.iload_n 2, 1) := by decide +kernel
theorem dX7_onTell_22 : decode cX7_onTell 22 = .ok (.invokevirtual 57, 3) := by decide +kernel
theorem dX7_onTell_25 : decode cX7_onTell 25 = .ok (.aload_n 0, 1) := by decide +kernel
theorem dX7_onTell_26 : decode cX7_onTell 26 = .ok (.aload_n 1, 1) := by decide +kernel
theorem dX7_onTell_27 : decode cX7_onTell 27 = .ok (.iload_n 2, 1) := by decide +kernel
theorem dX7_onTell_28 : decode cX7_onTell 28 = .ok (.bipush 11, 2) := by decide +kernel
theorem dX7_onTell_30 : decode cX7_onTell 30 = .ok (.iconst 0, 1) := by decide +kernel
theorem dX7_onTell_31 : decode cX7_onTell 31 = .ok (.iconst 0, 1) := by decide +kernel
theorem dX7_onTell_32 : decode cX7_onTell 32 = .ok (.invokevirtual 48, 3) := by decide +kernel
theorem dX7_onTell_35 : decode cX7_onTell 35 = .ok (.goto 17, 3) := by decide +kernel
theorem dX7_onTell_38 : decode cX7_onTell 38 = .ok (.aload_n 1, 1) := by decide +kernel
theorem dX7_onTell_39 : decode cX7_onTell 39 = .ok (.iload_n 2, 1) := by decide +kernel
theorem dX7_onTell_40 : decode cX7_onTell 40 = .ok (.invokevirtual 61, 3) := by decide +kernel
theorem dX7_onTell_43 : decode cX7_onTell 43 = .ok (.aload_n 0, 1) := by decide +kernel
theorem dX7_onTell_44 : decode cX7_onTell 44 = .ok (.aload_n 1, 1) := by decide +kernel
theorem dX7_onTell_45 : decode cX7_onTell 45 = .ok (.iload_n 3, 1) := by decide +kernel
theorem dX7_onTell_46 : decode cX7_onTell 46 = .ok (.iload 4, 2) := by decide +kernel
theorem dX7_onTell_48 : decode cX7_onTell 48 = .ok (.iload_n 2, 1) := by decide +kernel
theorem dX7_onTell_49 : decode cX7_onTell 49 = .ok (.invokevirtual 64, 3) := by decide +kernel
theorem dX7_onTell_52 : decode cX7_onTell 52 = .ok (.return_, 1) := by decide +kernel
theorem dX7_onNote_0 : decode cX7_onNote 0 = .ok (.aload_n 1, 1) := by decide +kernel
theorem dX7_onNote_1 : decode cX7_onNote 1 = .ok (.getfield 31, 3) := by decide +kernel
theorem dX7_onNote_4 : decode cX7_onNote 4 = .ok (.iload_n 2, 1) := by decide +kernel
theorem dX7_onNote_5 : decode cX7_onNote 5 = .ok (.invokevirtual 51, 3) := by decide +kernel
theorem dX7_onNote_8 : decode cX7_onNote 8 = .ok (.ifCond .eq 11, 3) := by decide +kernel
theorem dX7_onNote_11 : decode cX7_onNote 11 = .ok (.aload_n 1, 1) := by decide +kernel
theorem dX7_onNote_12 : decode cX7_onNote 12 = .ok (.iload_n 3, 1) := by decide +kernel
theorem dX7_onNote_13 : decode cX7_onNote 13 = .ok (.invokevirtual 54, 3) := by decide +kernel
theorem dX7_onNote_16 : decode cX7_onNote 16 = .ok (.ifCond .eq 4, 3) := by decide +kernel
theorem dX7_onNote_19 : decode cX7_onNote 19 = .ok (.return_, 1) := by decide +kernel
theorem dX7_onNote_20 : decode cX7_onNote 20 = .ok (.aload_n 1, 1) := by decide +kernel
theorem dX7_onNote_21 : decode cX7_onNote 21 = .ok (.iload_n 3, 1) := by decide +kernel
theorem dX7_onNote_22 : decode cX7_onNote 22 = .ok (.invokevirtual 68, 3) := by decide +kernel
theorem dX7_onNote_25 : decode cX7_onNote 25 = .ok (.astore 4, 2) := by decide +kernel
theorem dX7_onNote_27 : decode cX7_onNote 27 = .ok (.aload 4, 2) := by decide +kernel
theorem dX7_onNote_29 : decode cX7_onNote 29 = .ok (.getfield 72, 3) := by decide +kernel
theorem dX7_onNote_32 : decode cX7_onNote 32 = .ok (.ifCond .ne 32, 3) := by decide +kernel
theorem dX7_onNote_35 : decode cX7_onNote 35 = .ok (.aload 4, 2) := by decide +kernel
theorem dX7_onNote_37 : decode cX7_onNote 37 = .ok (.iconst 1, 1) := by decide +kernel
theorem dX7_onNote_38 : decode cX7_onNote 38 = .ok (.putfield 72, 3) := by decide +kernel
theorem dX7_onNote_41 : decode cX7_onNote 41 = .ok (.aload 4, 2) := by decide +kernel
theorem dX7_onNote_43 : decode cX7_onNote 43 = .ok (.aload_n 0, 1) := by decide +kernel
theorem dX7_onNote_44 : decode cX7_onNote 44 = .ok (.getfield 9, 3) := by decide +kernel
theorem dX7_onNote_47 : decode cX7_onNote 47 = .ok (.getfield 78, 3) := by decide +kernel
theorem dX7_onNote_50 : decode cX7_onNote 50 = .ok (.aload_n 0, 1) := by decide +kernel
theorem dX7_onNote_51 : decode cX7_onNote 51 = .ok (.getfield 9, 3) := by decide +kernel
theorem dX7_onNote_54 : decode cX7_onNote 54 = .ok (.getfield 81, 3) := by decide +kernel
theorem dX7_onNote_57 : decode cX7_onNote 57 = .ok (.getfield 85, 3) := by decide +kernel
theorem dX7_onNote_60 : decode cX7_onNote 60 = .ok (.iadd, 1) := by decide +kernel
theorem dX7_onNote_61 : decode cX7_onNote 61 = .ok (.putfield 90, 3) := by decide +kernel
theorem dX7_onNote_64 : decode cX7_onNote 64 = .ok (.aload 4, 2) := by decide +kernel
theorem dX7_onNote_66 : decode cX7_onNote 66 = .ok (.getfield 93, 3) := by decide +kernel
theorem dX7_onNote_69 : decode cX7_onNote 69 = .ok (.iload_n 2, 1) := by decide +kernel
theorem dX7_onNote_70 : decode cX7_onNote 70 = .ok (.invokevirtual 51, 3) := by decide +kernel
theorem dX7_onNote_73 : decode cX7_onNote 73 = .ok (.ifCond .ne 12, 3) := by decide +kernel
theorem dX7_onNote_76 : decode cX7_onNote 76 = .ok (.aload 4, 2) := by decide +kernel
theorem dX7_onNote_78 : decode cX7_onNote 78 = .ok (.getfield 93, 3) := by decide +kernel
theorem dX7_onNote_81 : decode cX7_onNote 81 = .ok (.iload_n 2, 1) := by decide +kernel
theorem dX7_onNote_82 : decode cX7_onNote 82 = .ok (.invokevirtual 96, 3) := by decide +kernel
theorem dX7_onNote_85 : decode cX7_onNote 85 = .ok (.return_, 1) := by decide +kernel
theorem dX7_onChoice_0 : decode cX7_onChoice 0 = .ok (.aload_n 1, 1) := by decide +kernel
theorem dX7_onChoice_1 : decode cX7_onChoice 1 = .ok (.getfield 31, 3) := by decide +kernel
theorem dX7_onChoice_4 : decode cX7_onChoice 4 = .ok (.iload_n 2, 1) := by decide +kernel
theorem dX7_onChoice_5 : decode cX7_onChoice 5 = .ok (.invokevirtual 51, 3) := by decide +kernel
theorem dX7_onChoice_8 : decode cX7_onChoice 8 = .ok (.ifCond .ne 4, 3) := by decide +kernel
theorem dX7_onChoice_11 : decode cX7_onChoice 11 = .ok (.return_, 1) := by decide +kernel
theorem dX7_onChoice_12 : decode cX7_onChoice 12 = .ok (.iload 4, 2) := by decide +kernel
theorem dX7_onChoice_14 : decode cX7_onChoice 14 = .ok (.ifCond .ne 9, 3) := by decide +kernel
theorem dX7_onChoice_17 : decode cX7_onChoice 17 = .ok (.aload_n 1, 1) := by decide +kernel
theorem dX7_onChoice_18 : decode cX7_onChoice 18 = .ok (.iload_n 2, 1) := by decide +kernel
theorem dX7_onChoice_19 : decode cX7_onChoice 19 = .ok (.invokevirtual 57, 3) := by decide +kernel
theorem dX7_onChoice_22 : decode cX7_onChoice 22 = .ok (.return_, 1) := by decide +kernel
theorem dX7_onChoice_23 : decode cX7_onChoice 23 = .ok (.aload_n 1, 1) := by decide +kernel
theorem dX7_onChoice_24 : decode cX7_onChoice 24 = .ok (.iload_n 2, 1) := by decide +kernel
theorem dX7_onChoice_25 : decode cX7_onChoice 25 = .ok (.invokevirtual 61, 3) := by decide +kernel
theorem dX7_onChoice_28 : decode cX7_onChoice 28 = .ok (.aload_n 1, 1) := by decide +kernel
theorem dX7_onChoice_29 : decode cX7_onChoice 29 = .ok (.iload_n 3, 1) := by decide +kernel
theorem dX7_onChoice_30 : decode cX7_onChoice 30 = .ok (.invokevirtual 54, 3) := by decide +kernel
theorem dX7_onChoice_33 : decode cX7_onChoice 33 = .ok (.ifCond .eq 19, 3) := by decide +kernel
theorem dX7_onChoice_36 : decode cX7_onChoice 36 = .ok (.aload_n 0, 1) := by decide +kernel
theorem dX7_onChoice_37 : decode cX7_onChoice 37 = .ok (.aload_n 1, 1) := by decide +kernel
theorem dX7_onChoice_38 : decode cX7_onChoice 38 = .ok (.iload_n 2, 1) := by decide +kernel
theorem dX7_onChoice_39 : decode cX7_onChoice 39 = .ok (.bipush 9, 2) := by decide +kernel
theorem dX7_onChoice_41 : decode cX7_onChoice 41 = .ok (.iload_n 3, 1) := by decide +kernel
theorem dX7_onChoice_42 : decode cX7_onChoice 42 = .ok (.aload_n 1, 1) := by decide +kernel
theorem dX7_onChoice_43 : decode cX7_onChoice 43 = .ok (.iload_n 3, 1) := by decide +kernel
theorem dX7_onChoice_44 : decode cX7_onChoice 44 = .ok (.invokevirtual 99, 3) := by decide +kernel
theorem dX7_onChoice_47 : decode cX7_onChoice 47 = .ok (.iconst 1, 1) := by decide +kernel
theorem dX7_onChoice_48 : decode cX7_onChoice 48 = .ok (.iadd, 1) := by decide +kernel
theorem dX7_onChoice_49 : decode cX7_onChoice 49 = .ok (.invokevirtual 48, 3) := by decide +kernel
theorem dX7_onChoice_52 : decode cX7_onChoice 52 = .ok (.return_, 1) := by decide +kernel
theorem dX7_pass_0 : decode cX7_pass 0 = .ok (.aload_n 0, 1) := by decide +kernel
theorem dX7_pass_1 : decode cX7_pass 1 = .ok (.getfield 9, 3) := by decide +kernel
theorem dX7_pass_4 : decode cX7_pass 4 = .ok (.dup, 1) := by decide +kernel
theorem dX7_pass_5 : decode cX7_pass 5 = .ok (.getfield 78, 3) := by decide +kernel
theorem dX7_pass_8 : decode cX7_pass 8 = .ok (.iconst 1, 1) := by decide +kernel
theorem dX7_pass_9 : decode cX7_pass 9 = .ok (.iadd, 1) := by decide +kernel
theorem dX7_pass_10 : decode cX7_pass 10 = .ok (.putfield 78, 3) := by decide +kernel
theorem dX7_pass_13 : decode cX7_pass 13 = .ok (.iconst 0, 1) := by decide +kernel
theorem dX7_pass_14 : decode cX7_pass 14 = .ok (.istore_n 1, 1) := by decide +kernel
theorem dX7_pass_15 : decode cX7_pass 15 = .ok (.iload_n 1, 1) := by decide +kernel
theorem dX7_pass_16 : decode cX7_pass 16 = .ok (.aload_n 0, 1) := by decide +kernel
theorem dX7_pass_17 : decode cX7_pass 17 = .ok (.getfield 9, 3) := by decide +kernel
theorem dX7_pass_20 : decode cX7_pass 20 = .ok (.getfield 102, 3) := by decide +kernel
theorem dX7_pass_23 : decode cX7_pass 23 = .ok (.if_icmp .ge 35, 3) := by decide +kernel
theorem dX7_pass_26 : decode cX7_pass 26 = .ok (.aload_n 0, 1) := by decide +kernel
theorem dX7_pass_27 : decode cX7_pass 27 = .ok (.getfield 9, 3) := by decide +kernel
theorem dX7_pass_30 : decode cX7_pass 30 = .ok (.iload_n 1, 1) := by decide +kernel
theorem dX7_pass_31 : decode cX7_pass 31 = .ok (.invokevirtual 105, 3) := by decide +kernel
theorem dX7_pass_34 : decode cX7_pass 34 = .ok (.getfield 109, 3) := by decide +kernel
theorem dX7_pass_37 : decode cX7_pass 37 = .ok (.ifCond .eq 15, 3) := by decide +kernel
theorem dX7_pass_40 : decode cX7_pass 40 = .ok (.aload_n 0, 1) := by decide +kernel
theorem dX7_pass_41 : decode cX7_pass 41 = .ok (.aload_n 0, 1) := by decide +kernel
theorem dX7_pass_42 : decode cX7_pass 42 = .ok (.getfield 9, 3) := by decide +kernel
theorem dX7_pass_45 : decode cX7_pass 45 = .ok (.iload_n 1, 1) := by decide +kernel
theorem dX7_pass_46 : decode cX7_pass 46 = .ok (.invokevirtual 105, 3) := by decide +kernel
theorem dX7_pass_49 : decode cX7_pass 49 = .ok (.invokevirtual 112, 3) := by decide +kernel
theorem dX7_pass_52 : decode cX7_pass 52 = .ok (.iinc 1 1, 3) := by decide +kernel
theorem dX7_pass_55 : decode cX7_pass 55 = .ok (.goto (-40), 3) := by decide +kernel
theorem dX7_pass_58 : decode cX7_pass 58 = .ok (.aload_n 0, 1) := by decide +kernel
theorem dX7_pass_59 : decode cX7_pass 59 = .ok (.getfield 9, 3) := by decide +kernel
theorem dX7_pass_62 : decode cX7_pass 62 = .ok (.getfield 78, 3) := by decide +kernel
theorem dX7_pass_65 : decode cX7_pass 65 = .ok (.ireturn, 1) := by decide +kernel
theorem dX7_fetchDue_0 : decode cX7_fetchDue 0 = .ok (.iconst 0, 1) := by decide +kernel
theorem dX7_fetchDue_1 : decode cX7_fetchDue 1 = .ok (.istore_n 2, 1) := by decide +kernel
theorem dX7_fetchDue_2 : decode cX7_fetchDue 2 = .ok (.iload_n 2, 1) := by decide +kernel
theorem dX7_fetchDue_3 : decode cX7_fetchDue 3 = .ok (.aload_n 0, 1) := by decide +kernel
theorem dX7_fetchDue_4 : decode cX7_fetchDue 4 = .ok (.getfield 9, 3) := by decide +kernel
theorem dX7_fetchDue_7 : decode cX7_fetchDue 7 = .ok (.getfield 116, 3) := by decide +kernel
theorem dX7_fetchDue_10 : decode cX7_fetchDue 10 = .ok (.if_icmp .ge 43, 3) := by decide +kernel
theorem dX7_fetchDue_13 : decode cX7_fetchDue 13 = .ok (.aload_n 1, 1) := by decide +kernel
theorem dX7_fetchDue_14 : decode cX7_fetchDue 14 = .ok (.iload_n 2, 1) := by decide +kernel
theorem dX7_fetchDue_15 : decode cX7_fetchDue 15 = .ok (.invokevirtual 68, 3) := by decide +kernel
theorem dX7_fetchDue_18 : decode cX7_fetchDue 18 = .ok (.astore_n 3, 1) := by decide +kernel
theorem dX7_fetchDue_19 : decode cX7_fetchDue 19 = .ok (.aload_n 3, 1) := by decide +kernel
theorem dX7_fetchDue_20 : decode cX7_fetchDue 20 = .ok (.getfield 72, 3) := by decide +kernel
theorem dX7_fetchDue_23 : decode cX7_fetchDue 23 = .ok (.ifCond .eq 24, 3) := by decide +kernel
theorem dX7_fetchDue_26 : decode cX7_fetchDue 26 = .ok (.aload_n 3, 1) := by decide +kernel
theorem dX7_fetchDue_27 : decode cX7_fetchDue 27 = .ok (.getfield 90, 3) := by decide +kernel
theorem dX7_fetchDue_30 : decode cX7_fetchDue 30 = .ok (.aload_n 0, 1) := by decide +kernel
theorem dX7_fetchDue_31 : decode cX7_fetchDue 31 = .ok (.getfield 9, 3) := by decide +kernel
theorem dX7_fetchDue_34 : decode cX7_fetchDue 34 = .ok (.getfield 78, 3) := by decide +kernel
theorem dX7_fetchDue_37 : decode cX7_fetchDue 37 = .ok (.if_icmp .gt 10, 3) := by decide +kernel
theorem dX7_fetchDue_40 : decode cX7_fetchDue 40 = .ok (.aload_n 0, 1) := by decide +kernel
theorem dX7_fetchDue_41 : decode cX7_fetchDue 41 = .ok (.aload_n 1, 1) := by decide +kernel
theorem dX7_fetchDue_42 : decode cX7_fetchDue 42 = .ok (.iload_n 2, 1) := by decide +kernel
theorem dX7_fetchDue_43 : decode cX7_fetchDue 43 = .ok (.aload_n 3, 1) := by decide +kernel
theorem dX7_fetchDue_44 : decode cX7_fetchDue 44 = .ok (.invokevirtual 119, 3) := by decide +kernel
theorem dX7_fetchDue_47 : decode cX7_fetchDue 47 = .ok (.iinc 2 1, 3) := by decide +kernel
theorem dX7_fetchDue_50 : decode cX7_fetchDue 50 = .ok (.goto (-48), 3) := by decide +kernel
theorem dX7_fetchDue_53 : decode cX7_fetchDue 53 = .ok (.return_, 1) := by decide +kernel
theorem dX7_fetch_0 : decode cX7_fetch 0 = .ok (.aload_n 3, 1) := by decide +kernel
theorem dX7_fetch_1 : decode cX7_fetch 1 = .ok (.getfield 93, 3) := by decide +kernel
theorem dX7_fetch_4 : decode cX7_fetch 4 = .ok (.getfield 35, 3) := by decide +kernel
theorem dX7_fetch_7 : decode cX7_fetch 7 = .ok (.ifCond .ne 8, 3) := by decide +kernel
theorem dX7_fetch_10 : decode cX7_fetch 10 = .ok (.aload_n 3, 1) := by decide +kernel
theorem dX7_fetch_11 : decode cX7_fetch 11 = .ok (.invokevirtual 123, 3) := by decide +kernel
theorem dX7_fetch_14 : decode cX7_fetch 14 = .ok (.return_, 1) := by decide +kernel
theorem dX7_fetch_15 : decode cX7_fetch 15 = .ok (.aload_n 3, 1) := by decide +kernel
theorem dX7_fetch_16 : decode cX7_fetch 16 = .ok (.getfield 93, 3) := by decide +kernel
theorem dX7_fetch_19 : decode cX7_fetch 19 = .ok (.iconst 0, 1) := by decide +kernel
theorem dX7_fetch_20 : decode cX7_fetch 20 = .ok (.invokevirtual 40, 3) := by decide +kernel
theorem dX7_fetch_23 : decode cX7_fetch 23 = .ok (.istore 4, 2) := by decide +kernel
theorem dX7_fetch_25 : decode cX7_fetch 25 = .ok (.aload_n 3, 1) := by decide +kernel
theorem dX7_fetch_26 : decode cX7_fetch 26 = .ok (.getfield 93, 3) := by decide +kernel
theorem dX7_fetch_29 : decode cX7_fetch 29 = .ok (.iconst 0, 1) := by decide +kernel
theorem dX7_fetch_30 : decode cX7_fetch 30 = .ok (.invokevirtual 126, 3) := by decide +kernel
theorem dX7_fetch_33 : decode cX7_fetch 33 = .ok (.aload_n 1, 1) := by decide +kernel
theorem dX7_fetch_34 : decode cX7_fetch 34 = .ok (.iload 4, 2) := by decide +kernel
theorem dX7_fetch_36 : decode cX7_fetch 36 = .ok (.invokevirtual 61, 3) := by decide +kernel
theorem dX7_fetch_39 : decode cX7_fetch 39 = .ok (.aload_n 0, 1) := by decide +kernel
theorem dX7_fetch_40 : decode cX7_fetch 40 = .ok (.aload_n 1, 1) := by decide +kernel
theorem dX7_fetch_41 : decode cX7_fetch 41 = .ok (.iload 4, 2) := by decide +kernel
theorem dX7_fetch_43 : decode cX7_fetch 43 = .ok (.bipush 11, 2) := by decide +kernel
theorem dX7_fetch_45 : decode cX7_fetch 45 = .ok (.iload_n 2, 1) := by decide +kernel
theorem dX7_fetch_46 : decode cX7_fetch 46 = .ok (.iconst 1, 1) := by decide +kernel
theorem dX7_fetch_47 : decode cX7_fetch 47 = .ok (.invokevirtual 48, 3) := by decide +kernel
theorem dX7_fetch_50 : decode cX7_fetch 50 = .ok (.aload_n 3, 1) := by decide +kernel
theorem dX7_fetch_51 : decode cX7_fetch 51 = .ok (.aload_n 0, 1) := by decide +kernel
theorem dX7_fetch_52 : decode cX7_fetch 52 = .ok (.getfield 9, 3) := by decide +kernel
theorem dX7_fetch_55 : decode cX7_fetch 55 = .ok (.getfield 78, 3) := by decide +kernel
theorem dX7_fetch_58 : decode cX7_fetch 58 = .ok (.aload_n 0, 1) := by decide +kernel
theorem dX7_fetch_59 : decode cX7_fetch 59 = .ok (.getfield 9, 3) := by decide +kernel
theorem dX7_fetch_62 : decode cX7_fetch 62 = .ok (.getfield 81, 3) := by decide +kernel
theorem dX7_fetch_65 : decode cX7_fetch 65 = .ok (.getfield 85, 3) := by decide +kernel
theorem dX7_fetch_68 : decode cX7_fetch 68 = .ok (.iconst 2, 1) := by decide +kernel
theorem dX7_fetch_69 : decode cX7_fetch 69 = .ok (.idiv, 1) := by decide +kernel
theorem dX7_fetch_70 : decode cX7_fetch 70 = .ok (.iconst 1, 1) := by decide +kernel
theorem dX7_fetch_71 : decode cX7_fetch 71 = .ok (.invokestatic 129, 3) := by decide +kernel
theorem dX7_fetch_74 : decode cX7_fetch 74 = .ok (.iadd, 1) := by decide +kernel
theorem dX7_fetch_75 : decode cX7_fetch 75 = .ok (.putfield 90, 3) := by decide +kernel
theorem dX7_fetch_78 : decode cX7_fetch 78 = .ok (.return_, 1) := by decide +kernel
theorem dX8_init_0 : decode cX8_init 0 = .ok (.aload_n 0, 1) := by decide +kernel
theorem dX8_init_1 : decode cX8_init 1 = .ok (.invokespecial 3, 3) := by decide +kernel
theorem dX8_init_4 : decode cX8_init 4 = .ok (.aload_n 0, 1) := by decide +kernel
theorem dX8_init_5 : decode cX8_init 5 = .ok (.new 9, 3) := by decide +kernel
theorem dX8_init_8 : decode cX8_init 8 = .ok (.dup, 1) := by decide +kernel
theorem dX8_init_9 : decode cX8_init 9 = .ok (.bipush 8, 2) := by decide +kernel
theorem dX8_init_11 : decode cX8_init 11 = .ok (.invokespecial 11, 3) := by decide +kernel
theorem dX8_init_14 : decode cX8_init 14 = .ok (.putfield 14, 3) := by decide +kernel
theorem dX8_init_17 : decode cX8_init 17 = .ok (.aload_n 0, 1) := by decide +kernel
theorem dX8_init_18 : decode cX8_init 18 = .ok (.new 9, 3) := by decide +kernel
theorem dX8_init_21 : decode cX8_init 21 = .ok (.dup, 1) := by decide +kernel
theorem dX8_init_22 : decode cX8_init 22 = .ok (.iconst 5, 1) := by decide +kernel
theorem dX8_init_23 : decode cX8_init 23 = .ok (.invokespecial 11, 3) := by decide +kernel
theorem dX8_init_26 : decode cX8_init 26 = .ok (.putfield 20, 3) := by decide +kernel
theorem dX8_init_29 : decode cX8_init 29 = .ok (.aload_n 0, 1) := by decide +kernel
theorem dX8_init_30 : decode cX8_init 30 = .ok (.aload_n 1, 1) := by decide +kernel
theorem dX8_init_31 : decode cX8_init 31 = .ok (.putfield 23, 3) := by decide +kernel
theorem dX8_init_34 : decode cX8_init 34 = .ok (.aload_n 0, 1) := by decide +kernel
theorem dX8_init_35 : decode cX8_init 35 = .ok (.aload_n 1, 1) := by decide +kernel
theorem dX8_init_36 : decode cX8_init 36 = .ok (.getfield 27, 3) := by decide +kernel
theorem dX8_init_39 : decode cX8_init 39 = .ok (.putfield 33, 3) := by decide +kernel
theorem dX8_init_42 : decode cX8_init 42 = .ok (.return_, 1) := by decide +kernel
theorem dX8_send_0 : decode cX8_send 0 = .ok (.aload_n 0, 1) := by decide +kernel
theorem dX8_send_1 : decode cX8_send 1 = .ok (.getfield 23, 3) := by decide +kernel
theorem dX8_send_4 : decode cX8_send 4 = .ok (.aload_n 1, 1) := by decide +kernel
theorem dX8_send_5 : decode cX8_send 5 = .ok (.getfield 34, 3) := by decide +kernel
theorem dX8_send_8 : decode cX8_send 8 = .ok (.iload_n 2, 1) := by decide +kernel
theorem dX8_send_9 : decode cX8_send 9 = .ok (.iload_n 3, 1) := by decide +kernel
theorem dX8_send_10 : decode cX8_send 10 = .ok (.iload 4, 2) := by decide +kernel
theorem dX8_send_12 : decode cX8_send 12 = .ok (.iload 5, 2) := by decide +kernel
theorem dX8_send_14 : decode cX8_send 14 = .ok (.invokevirtual 40, 3) := by decide +kernel
theorem dX8_send_17 : decode cX8_send 17 = .ok (.pop, 1) := by decide +kernel
theorem dX8_send_18 : decode cX8_send 18 = .ok (.return_, 1) := by decide +kernel
theorem dX8_fillPool_0 : decode cX8_fillPool 0 = .ok (.aload_n 0, 1) := by decide +kernel
theorem dX8_fillPool_1 : decode cX8_fillPool 1 = .ok (.getfield 14, 3) := by decide +kernel
theorem dX8_fillPool_4 : decode cX8_fillPool 4 = .ok (.invokevirtual 44, 3) := by decide +kernel
theorem dX8_fillPool_7 : decode cX8_fillPool 7 = .ok (.iconst 0, 1) := by decide +kernel
theorem dX8_fillPool_8 : decode cX8_fillPool 8 = .ok (.istore 4, 2) := by decide +kernel
theorem dX8_fillPool_10 : decode cX8_fillPool 10 = .ok (.iload 4, 2) := by decide +kernel
theorem dX8_fillPool_12 : decode cX8_fillPool 12 = .ok (.aload_n 1, 1) := by decide +kernel
theorem dX8_fillPool_13 : decode cX8_fillPool 13 = .ok (.getfield 47, 3) := by decide +kernel
theorem dX8_fillPool_16 : decode cX8_fillPool 16 = .ok (.if_icmp .ge 38, 3) := by decide +kernel
theorem dX8_fillPool_19 : decode cX8_fillPool 19 = .ok (.aload_n 1, 1) := by decide +kernel
theorem dX8_fillPool_20 : decode cX8_fillPool 20 = .ok (.iload 4, 2) := by decide +kernel
theorem dX8_fillPool_22 : decode cX8_fillPool 22 = .ok (.invokevirtual 50, 3) := by decide +kernel
theorem dX8_fillPool_25 : decode cX8_fillPool 25 = .ok (.istore 5, 2) := by decide +kernel
theorem dX8_fillPool_27 : decode cX8_fillPool 27 = .ok (.iload 5, 2) := by decide +kernel
theorem dX8_fillPool_29 : decode cX8_fillPool 29 = .ok (.iload_n 2, 1) := by decide +kernel
theorem dX8_fillPool_30 : decode cX8_fillPool 30 = .ok (.if_icmp .eq 18, 3) := by decide +kernel
theorem dX8_fillPool_33 : decode cX8_fillPool 33 = .ok (.iload 5, 2) := by decide +kernel
theorem dX8_fillPool_35 : decode cX8_fillPool 35 = .ok (.iload_n 3, 1) := by decide +kernel
theorem dX8_fillPool_36 : decode cX8_fillPool 36 = .ok (.if_icmp .eq 12, 3) := by decide +kernel
theorem dX8_fillPool_39 : decode cX8_fillPool 39 = .ok (.aload_n 0, 1) := by decide +kernel
theorem dX8_fillPool_40 : decode cX8_fillPool 40 = .ok (.getfield 14, 3) := by decide +kernel
theorem dX8_fillPool_43 : decode cX8_fillPool 43 = .ok (.iload 5, 2) := by decide +kernel
theorem dX8_fillPool_45 : decode cX8_fillPool 45 = .ok (.invokevirtual 54, 3) := by decide +kernel
theorem dX8_fillPool_48 : decode cX8_fillPool 48 = .ok (.iinc 4 1, 3) := by decide +kernel
theorem dX8_fillPool_51 : decode cX8_fillPool 51 = .ok (.goto (-41), 3) := by decide +kernel
theorem dX8_fillPool_54 : decode cX8_fillPool 54 = .ok (.return_, 1) := by decide +kernel
theorem dX8_drawOfPool_0 : decode cX8_drawOfPool 0 = .ok (.aload_n 0, 1) := by decide +kernel
theorem dX8_drawOfPool_1 : decode cX8_drawOfPool 1 = .ok (.getfield 23, 3) := by decide +kernel
theorem dX8_drawOfPool_4 : decode cX8_drawOfPool 4 = .ok (.aload_n 0, 1) := by decide +kernel
theorem dX8_drawOfPool_5 : decode cX8_drawOfPool 5 = .ok (.getfield 14, 3) := by decide +kernel
theorem dX8_drawOfPool_8 : decode cX8_drawOfPool 8 = .ok (.getfield 47, 3) := by decide +kernel
theorem dX8_drawOfPool_11 : decode cX8_drawOfPool 11 = .ok (.invokevirtual 57, 3) := by decide +kernel
theorem dX8_drawOfPool_14 : decode cX8_drawOfPool 14 = .ok (.istore_n 1, 1) := by decide +kernel
theorem dX8_drawOfPool_15 : decode cX8_drawOfPool 15 = .ok (.aload_n 0, 1) := by decide +kernel
theorem dX8_drawOfPool_16 : decode cX8_drawOfPool 16 = .ok (.getfield 14, 3) := by decide +kernel
theorem dX8_drawOfPool_19 : decode cX8_drawOfPool 19 = .ok (.iload_n 1, 1) := by decide +kernel
theorem dX8_drawOfPool_20 : decode cX8_drawOfPool 20 = .ok (.invokevirtual 50, 3) := by decide +kernel
theorem dX8_drawOfPool_23 : decode cX8_drawOfPool 23 = .ok (.istore_n 2, 1) := by decide +kernel
theorem dX8_drawOfPool_24 : decode cX8_drawOfPool 24 = .ok (.aload_n 0, 1) := by decide +kernel
theorem dX8_drawOfPool_25 : decode cX8_drawOfPool 25 = .ok (.getfield 14, 3) := by decide +kernel
theorem dX8_drawOfPool_28 : decode cX8_drawOfPool 28 = .ok (.iload_n 1, 1) := by decide +kernel
theorem dX8_drawOfPool_29 : decode cX8_drawOfPool 29 = .ok (.invokevirtual 60, 3) := by decide +kernel
theorem dX8_drawOfPool_32 : decode cX8_drawOfPool 32 = .ok (.iload_n 2, 1) := by decide +kernel
theorem dX8_drawOfPool_33 : decode cX8_drawOfPool 33 = .ok (.ireturn, 1) := by decide +kernel
theorem dX8_listFromPool_0 : decode cX8_listFromPool 0 = .ok (.iconst 0, 1) := by decide +kernel
theorem dX8_listFromPool_1 : decode cX8_listFromPool 1 = .ok (.istore_n 2, 1) := by decide +kernel
theorem dX8_listFromPool_2 : decode cX8_listFromPool 2 = .ok (.iload_n 2, 1) := by decide +kernel
theorem dX8_listFromPool_3 : decode cX8_listFromPool 3 = .ok (.iload_n 1, 1) := by decide +kernel
theorem dX8_listFromPool_4 : decode cX8_listFromPool 4 = .ok (.if_icmp .ge 30, 3) := by decide +kernel
theorem dX8_listFromPool_7 : decode cX8_listFromPool 7 = .ok (.aload_n 0, 1) := by decide +kernel
theorem dX8_listFromPool_8 : decode cX8_listFromPool 8 = .ok (.getfield 14, 3) := by decide +kernel
theorem dX8_listFromPool_11 : decode cX8_listFromPool 11 = .ok (.getfield 47, 3) := by decide +kernel
theorem dX8_listFromPool_14 : decode cX8_listFromPool 14 = .ok (.ifCond .le 20, 3) := by decide +kernel
theorem dX8_listFromPool_17 : decode cX8_listFromPool 17 = .ok (.aload_n 0, 1) := by decide +kernel
theorem dX8_listFromPool_18 : decode cX8_listFromPool 18 = .ok (.getfield 20, 3) := by decide +kernel
theorem dX8_listFromPool_21 : decode cX8_listFromPool 21 = .ok (.aload_n 0, 1) := by decide +kernel
theorem dX8_listFromPool_22 : decode cX8_listFromPool 22 = .ok (.invokevirtual 63, 3) := by decide +kernel
theorem dX8_listFromPool_25 : decode cX8_listFromPool 25 = .ok (.invokevirtual 54, 3) := by decide +kernel
theorem dX8_listFromPool_28 : decode cX8_listFromPool 28 = .ok (.iinc 2 1, 3) := by decide +kernel
theorem dX8_listFromPool_31 : decode cX8_listFromPool 31 = .ok (.goto (-29), 3) := by decide +kernel
theorem dX8_listFromPool_34 : decode cX8_listFromPool 34 = .ok (.return_, 1) := by decide +kernel
theorem dX8_isFull_0 : decode cX8_isFull 0 = .ok (.aload_n 1, 1) := by decide +kernel
theorem dX8_isFull_1 : decode cX8_isFull 1 = .ok (.getfield 67, 3) := by decide +kernel
theorem dX8_isFull_4 : decode cX8_isFull 4 = .ok (.getfield 47, 3) := by decide +kernel
theorem dX8_isFull_7 : decode cX8_isFull 7 = .ok (.aload_n 0, 1) := by decide +kernel
theorem dX8_isFull_8 : decode cX8_isFull 8 = .ok (.getfield 33, 3) := by decide +kernel
theorem dX8_isFull_11 : decode cX8_isFull 11 = .ok (.getfield 70, 3) := by decide +kernel
theorem dX8_isFull_14 : decode cX8_isFull 14 = .ok (.if_icmp .lt 7, 3) := by decide +kernel
theorem dX8_isFull_17 : decode cX8_isFull 17 = .ok (.iconst 1, 1) := by decide +kernel
theorem dX8_isFull_18 : decode cX8_isFull 18 = .ok (.goto 4, 3) := by decide +kernel
theorem dX8_isFull_21 : decode cX8_isFull 21 = .ok (.iconst 0, 1) := by decide +kernel
theorem dX8_isFull_22 : decode cX8_isFull 22 = .ok (.ireturn, 1) := by decide +kernel
theorem dX8_add_0 : decode cX8_add 0 = .ok (.iload_n 2, 1) := by decide +kernel
theorem dX8_add_1 : decode cX8_add 1 = .ok (.aload_n 1, 1) := by decide +kernel
theorem dX8_add_2 : decode cX8_add 2 = .ok (.getfield 34, 3) := by decide +kernel
theorem dX8_add_5 : decode cX8_add 5 = .ok (.if_icmp .eq 14, 3) := by decide +kernel
theorem dX8_add_8 : decode cX8_add 8 = .ok (.aload_n 1, 1) := by decide +kernel
theorem dX8_add_9 : decode cX8_add 9 = .ok (.getfield 67, 3) := by decide +kernel
theorem dX8_add_12 : decode cX8_add 12 = .ok (.iload_n 2, 1) := by decide +kernel
theorem dX8_add_13 : decode cX8_add 13 = .ok (.invokevirtual 74, 3) := by decide +kernel
theorem dX8_add_16 : decode cX8_add 16 = .ok (.ifCond .eq 4, 3) := by decide +kernel
theorem dX8_add_19 : decode cX8_add 19 = .ok (.return_, 1) := by decide +kernel
theorem dX8_add_20 : decode cX8_add 20 = .ok (.aload_n 1, 1) := by decide +kernel
theorem dX8_add_21 : decode cX8_add 21 = .ok (.getfield 78, 3) := by decide +kernel
theorem dX8_add_24 : decode cX8_add 24 = .ok (.iload_n 2, 1) := by decide +kernel
theorem dX8_add_25 : decode cX8_add 25 = .ok (.invokevirtual 81, 3) := by decide +kernel
theorem dX8_add_28 : decode cX8_add 28 = .ok (.aload_n 0, 1) := by decide +kernel
theorem dX8_add_29 : decode cX8_add 29 = .ok (.aload_n 1, 1) := by decide +kernel
theorem dX8_add_30 : decode cX8_add 30 = .ok (.invokevirtual 84, 3) := by decide +kernel
theorem dX8_add_33 : decode cX8_add 33 = .ok (.ifCond .eq 29, 3) := by decide +kernel
theorem dX8_add_36 : decode cX8_add 36 = .ok (.aload_n 0, 1) := by decide +kernel
theorem dX8_add_37 : decode cX8_add 37 = .ok (.aload_n 1, 1) := by decide +kernel
theorem dX8_add_38 : decode cX8_add 38 = .ok (.aload_n 1, 1) := by decide +kernel
theorem dX8_add_39 : decode cX8_add 39 = .ok (.getfield 67, 3) := by decide +kernel
theorem dX8_add_42 : decode cX8_add 42 = .ok (.aload_n 0, 1) := by decide +kernel
theorem dX8_add_43 : decode cX8_add 43 = .ok (.getfield 23, 3) := by decide +kernel
theorem dX8_add_46 : decode cX8_add 46 = .ok (.aload_n 1, 1) := by decide +kernel
theorem dX8_add_47 : decode cX8_add 47 = .ok (.getfield 67, 3) := by decide +kernel
theorem dX8_add_50 : decode cX8_add 50 = .ok (.getfield 47, 3) := by decide +kernel
theorem dX8_add_53 : decode cX8_add 53 = .ok (.invokevirtual 57, 3) := by decide +kernel
theorem dX8_add_56 : decode cX8_add 56 = .ok (.invokevirtual 50, 3) := by decide +kernel
theorem dX8_add_59 : decode cX8_add 59 = .ok (.invokevirtual 88, 3) := by decide +kernel
theorem dX8_add_62 : decode cX8_add 62 = .ok (.aload_n 1, 1) := by decide +kernel
theorem dX8_add_63 : decode cX8_add 63 = .ok (.getfield 67, 3) := by decide +kernel
theorem dX8_add_66 : decode cX8_add 66 = .ok (.iload_n 2, 1) := by decide +kernel
theorem dX8_add_67 : decode cX8_add 67 = .ok (.invokevirtual 54, 3) := by decide +kernel
theorem dX8_add_70 : decode cX8_add 70 = .ok (.aload_n 1, 1) := by decide +kernel
theorem dX8_add_71 : decode cX8_add 71 = .ok (.iload_n 2, 1) := by decide +kernel
theorem dX8_add_72 : decode cX8_add 72 = .ok (.invokevirtual 92, 3) := by decide +kernel
theorem dX8_add_75 : decode cX8_add 75 = .ok (.aload_n 1, 1) := by decide +kernel
theorem dX8_add_76 : decode cX8_add 76 = .ok (.getfield 95, 3) := by decide +kernel
theorem dX8_add_79 : decode cX8_add 79 = .ok (.iload_n 2, 1) := by decide +kernel
theorem dX8_add_80 : decode cX8_add 80 = .ok (.if_icmp .ne 9, 3) := by decide +kernel
theorem dX8_add_83 : decode cX8_add 83 = .ok (.aload_n 1, 1) := by decide +kernel
theorem dX8_add_84 : decode cX8_add 84 = .ok (.bipush (-6), 2) := by decide +kernel
theorem dX8_add_86 : decode cX8_add 86 = .ok (.putfield 95, 3) := by decide +kernel
theorem dX8_add_89 : decode cX8_add 89 = .ok (.return_, 1) := by decide +kernel
theorem dX8_drop_0 : decode cX8_drop 0 = .ok (.aload_n 0, 1) := by decide +kernel
theorem dX8_drop_1 : decode cX8_drop 1 = .ok (.getfield 23, 3) := by decide +kernel
theorem dX8_drop_4 : decode cX8_drop 4 = .ok (.aload_n 1, 1) := by decide +kernel
theorem dX8_drop_5 : decode cX8_drop 5 = .ok (.getfield 34, 3) := by decide +kernel
theorem dX8_drop_8 : decode cX8_drop 8 = .ok (.iload_n 2, 1) := by decide +kernel
theorem dX8_drop_9 : decode cX8_drop 9 = .ok (.iconst 4, 1) := by decide +kernel
theorem dX8_drop_10 : decode cX8_drop 10 = .ok (.iconst 0, 1) := by decide +kernel
theorem dX8_drop_11 : decode cX8_drop 11 = .ok (.iconst 0, 1) := by decide +kernel
theorem dX8_drop_12 : decode cX8_drop 12 = .ok (.invokevirtual 40, 3) := by decide +kernel
theorem dX8_drop_15 : decode cX8_drop 15 = .ok (.pop, 1) := by decide +kernel
theorem dX8_drop_16 : decode cX8_drop 16 = .ok (.aload_n 1, 1) := by decide +kernel
theorem dX8_drop_17 : decode cX8_drop 17 = .ok (.iload_n 2, 1) := by decide +kernel
theorem dX8_drop_18 : decode cX8_drop 18 = .ok (.invokevirtual 98, 3) := by decide +kernel
theorem dX8_drop_21 : decode cX8_drop 21 = .ok (.aload_n 0, 1) := by decide +kernel
theorem dX8_drop_22 : decode cX8_drop 22 = .ok (.aload_n 1, 1) := by decide +kernel
theorem dX8_drop_23 : decode cX8_drop 23 = .ok (.iload_n 2, 1) := by decide +kernel
theorem dX8_drop_24 : decode cX8_drop 24 = .ok (.invokevirtual 101, 3) := by decide +kernel
theorem dX8_drop_27 : decode cX8_drop 27 = .ok (.return_, 1) := by decide +kernel
theorem dX8_note_0 : decode cX8_note 0 = .ok (.iload_n 2, 1) := by decide +kernel
theorem dX8_note_1 : decode cX8_note 1 = .ok (.aload_n 1, 1) := by decide +kernel
theorem dX8_note_2 : decode cX8_note 2 = .ok (.getfield 34, 3) := by decide +kernel
theorem dX8_note_5 : decode cX8_note 5 = .ok (.if_icmp .eq 25, 3) := by decide +kernel
theorem dX8_note_8 : decode cX8_note 8 = .ok (.aload_n 1, 1) := by decide +kernel
theorem dX8_note_9 : decode cX8_note 9 = .ok (.getfield 67, 3) := by decide +kernel
theorem dX8_note_12 : decode cX8_note 12 = .ok (.iload_n 2, 1) := by decide +kernel
theorem dX8_note_13 : decode cX8_note 13 = .ok (.invokevirtual 74, 3) := by decide +kernel
theorem dX8_note_16 : decode cX8_note 16 = .ok (.ifCond .ne 14, 3) := by decide +kernel
theorem dX8_note_19 : decode cX8_note 19 = .ok (.aload_n 1, 1) := by decide +kernel
theorem dX8_note_20 : decode cX8_note 20 = .ok (.getfield 78, 3) := by decide +kernel
theorem dX8_note_23 : decode cX8_note 23 = .ok (.iload_n 2, 1) := by decide +kernel
theorem dX8_note_24 : decode cX8_note 24 = .ok (.invokevirtual 74, 3) := by decide +kernel
theorem dX8_note_27 : decode cX8_note 27 = .ok (.ifCond .eq 4, 3) := by decide +kernel
theorem dX8_note_30 : decode cX8_note 30 = .ok (.return_, 1) := by decide +kernel
theorem dX8_note_31 : decode cX8_note 31 = .ok (.aload_n 1, 1) := by decide +kernel
theorem dX8_note_32 : decode cX8_note 32 = .ok (.getfield 78, 3) := by decide +kernel
theorem dX8_note_35 : decode cX8_note 35 = .ok (.getfield 47, 3) := by decide +kernel
theorem dX8_note_38 : decode cX8_note 38 = .ok (.aload_n 0, 1) := by decide +kernel
theorem dX8_note_39 : decode cX8_note 39 = .ok (.getfield 33, 3) := by decide +kernel
theorem dX8_note_42 : decode cX8_note 42 = .ok (.getfield 104, 3) := by decide +kernel
theorem dX8_note_45 : decode cX8_note 45 = .ok (.if_icmp .lt 24, 3) := by decide +kernel
theorem dX8_note_48 : decode cX8_note 48 = .ok (.aload_n 1, 1) := by decide +kernel
theorem dX8_note_49 : decode cX8_note 49 = .ok (.getfield 78, 3) := by decide +kernel
theorem dX8_note_52 : decode cX8_note 52 = .ok (.aload_n 0, 1) := by decide +kernel
theorem dX8_note_53 : decode cX8_note 53 = .ok (.getfield 23, 3) := by decide +kernel
theorem dX8_note_56 : decode cX8_note 56 = .ok (.aload_n 1, 1) := by decide +kernel
theorem dX8_note_57 : decode cX8_note 57 = .ok (.getfield 78, 3) := by decide +kernel
theorem dX8_note_60 : decode cX8_note 60 = .ok (.getfield 47, 3) := by decide +kernel
theorem dX8_note_63 : decode cX8_note 63 = .ok (.invokevirtual 57, 3) := by decide +kernel
theorem dX8_note_66 : decode cX8_note 66 = .ok (.invokevirtual 60, 3) := by decide +kernel
theorem dX8_note_69 : decode cX8_note 69 = .ok (.aload_n 1, 1) := by decide +kernel
theorem dX8_note_70 : decode cX8_note 70 = .ok (.getfield 78, 3) := by decide +kernel
theorem dX8_note_73 : decode cX8_note 73 = .ok (.iload_n 2, 1) := by decide +kernel
theorem dX8_note_74 : decode cX8_note 74 = .ok (.invokevirtual 54, 3) := by decide +kernel
theorem dX8_note_77 : decode cX8_note 77 = .ok (.return_, 1) := by decide +kernel
theorem dX8_mend_0 : decode cX8_mend 0 = .ok (.aload_n 0, 1) := by decide +kernel
theorem dX8_mend_1 : decode cX8_mend 1 = .ok (.aload_n 1, 1) := by decide +kernel
theorem dX8_mend_2 : decode cX8_mend 2 = .ok (.invokevirtual 84, 3) := by decide +kernel
theorem dX8_mend_5 : decode cX8_mend 5 = .ok (.ifCond .ne 12, 3) := by decide +kernel
theorem dX8_mend_8 : decode cX8_mend 8 = .ok (.aload_n 1, 1) := by decide +kernel
theorem dX8_mend_9 : decode cX8_mend 9 = .ok (.getfield 95, 3) := by decide +kernel
theorem dX8_mend_12 : decode cX8_mend 12 = .ok (.bipush (-6), 2) := by decide +kernel
theorem dX8_mend_14 : decode cX8_mend 14 = .ok (.if_icmp .eq 4, 3) := by decide +kernel
theorem dX8_mend_17 : decode cX8_mend 17 = .ok (.return_, 1) := by decide +kernel
theorem dX8_mend_18 : decode cX8_mend 18 = .ok (.aload_n 0, 1) := by decide +kernel
theorem dX8_mend_19 : decode cX8_mend 19 = .ok (.getfield 14, 3) := by decide +kernel
theorem dX8_mend_22 : decode cX8_mend 22 = .ok (.invokevirtual 44, 3) := by decide +kernel
theorem dX8_mend_25 : decode cX8_mend 25 = .ok (.iconst 0, 1) := by decide +kernel
theorem dX8_mend_26 : decode cX8_mend 26 = .ok (.istore_n 2, 1) := by decide +kernel
theorem dX8_mend_27 : decode cX8_mend 27 = .ok (.iload_n 2, 1) := by decide +kernel
theorem dX8_mend_28 : decode cX8_mend 28 = .ok (.aload_n 1, 1) := by decide +kernel
theorem dX8_mend_29 : decode cX8_mend 29 = .ok (.getfield 78, 3) := by decide +kernel
theorem dX8_mend_32 : decode cX8_mend 32 = .ok (.getfield 47, 3) := by decide +kernel
theorem dX8_mend_35 : decode cX8_mend 35 = .ok (.if_icmp .ge 37, 3) := by decide +kernel
theorem dX8_mend_38 : decode cX8_mend 38 = .ok (.aload_n 1, 1) := by decide +kernel
theorem dX8_mend_39 : decode cX8_mend 39 = .ok (.getfield 78, 3) := by decide +kernel
theorem dX8_mend_42 : decode cX8_mend 42 = .ok (.iload_n 2, 1) := by decide +kernel
theorem dX8_mend_43 : decode cX8_mend 43 = .ok (.invokevirtual 50, 3) := by decide +kernel
theorem dX8_mend_46 : decode cX8_mend 46 = .ok (.istore_n 3, 1) := by decide +kernel
theorem dX8_mend_47 : decode cX8_mend 47 = .ok (.aload_n 1, 1) := by decide +kernel
theorem dX8_mend_48 : decode cX8_mend 48 = .ok (.getfield 106, 3) := by decide +kernel
theorem dX8_mend_51 : decode cX8_mend 51 = .ok (.iconst 1, 1) := by decide +kernel
theorem dX8_mend_52 : decode cX8_mend 52 = .ok (.iload_n 3, 1) := by decide +kernel
theorem dX8_mend_53 : decode cX8_mend 53 = .ok (.ishl, 1) := by decide +kernel
theorem dX8_mend_54 : decode cX8_mend 54 = .ok (.iand, 1) := by decide +kernel
theorem dX8_mend_55 : decode cX8_mend 55 = .ok (.ifCond .ne 11, 3) := by decide +kernel
theorem dX8_mend_58 : decode cX8_mend 58 = .ok (.aload_n 0, 1) := by decide +kernel
theorem dX8_mend_59 : decode cX8_mend 59 = .ok (.getfield 14, 3) := by decide +kernel
theorem dX8_mend_62 : decode cX8_mend 62 = .ok (.iload_n 3, 1) := by decide +kernel
theorem dX8_mend_63 : decode cX8_mend 63 = .ok (.invokevirtual 54, 3) := by decide +kernel
theorem dX8_mend_66 : decode cX8_mend 66 = .ok (.iinc 2 1, 3) := by decide +kernel
theorem dX8_mend_69 : decode cX8_mend 69 = .ok (.goto (-42), 3) := by decide +kernel
theorem dX8_mend_72 : decode cX8_mend 72 = .ok (.aload_n 0, 1) := by decide +kernel
theorem dX8_mend_73 : decode cX8_mend 73 = .ok (.invokevirtual 63, 3) := by decide +kernel
theorem dX8_mend_76 : decode cX8_mend 76 = .ok (.istore_n 2, 1) := by decide +kernel
theorem dX8_mend_77 : decode cX8_mend 77 = .ok (.iload_n 2, 1) := by decide +kernel
theorem dX8_mend_78 : decode cX8_mend 78 = .ok (.bipush (-6), 2) := by decide +kernel
theorem dX8_mend_80 : decode cX8_mend 80 = .ok (.if_icmp .ne 9, 3) := by decide +kernel
theorem dX8_mend_83 : decode cX8_mend 83 = .ok (.aload_n 1, 1) := by decide +kernel
theorem dX8_mend_84 : decode cX8_mend 84 = .ok (.iconst 0, 1) := by decide +kernel
theorem dX8_mend_85 : decode cX8_mend 85 = .ok (.putfield 106, 3) := by decide +kernel
theorem dX8_mend_88 : decode cX8_mend 88 = .ok (.return_, 1) := by decide +kernel
theorem dX8_mend_89 : decode cX8_mend 89 = .ok (.aload_n 1, 1) := by decide +kernel
theorem dX8_mend_90 : decode cX8_mend 90 = .ok (.iload_n 2, 1) := by decide +kernel
theorem dX8_mend_91 : decode cX8_mend 91 = .ok (.putfield 95, 3) := by decide +kernel
theorem dX8_mend_94 : decode cX8_mend 94 = .ok (.aload_n 0, 1) := by decide +kernel
theorem dX8_mend_95 : decode cX8_mend 95 = .ok (.aload_n 1, 1) := by decide +kernel
theorem dX8_mend_96 : decode cX8_mend 96 = .ok (.iload_n 2, 1) := by decide +kernel
theorem dX8_mend_97 : decode cX8_mend 97 = .ok (.iconst 5, 1) := by decide +kernel
theorem dX8_mend_98 : decode cX8_mend 98 = .ok (.aload_n 1, 1) := by decide +kernel
theorem dX8_mend_99 : decode cX8_mend 99 = .ok (.getfield 67, 3) := by decide +kernel
theorem dX8_mend_102 : decode cX8_mend 102 = .ok (.getfield 47, 3) := by decide +kernel
theorem dX8_mend_105 : decode cX8_mend 105 = .ok (.ifCond .ne 7, 3) := by decide +kernel
theorem dX8_mend_108 : decode cX8_mend 108 = .ok (.iconst 1, 1) := by decide +kernel
theorem dX8_mend_109 : decode cX8_mend 109 = .ok (.goto 4, 3) := by decide +kernel
theorem dX8_mend_112 : decode cX8_mend 112 = .ok (.iconst 0, 1) := by decide +kernel
theorem dX8_mend_113 : decode cX8_mend 113 = .ok (.iconst 0, 1) := by decide +kernel
theorem dX8_mend_114 : decode cX8_mend 114 = .ok (.invokevirtual 109, 3) := by decide +kernel
theorem dX8_mend_117 : decode cX8_mend 117 = .ok (.return_, 1) := by decide +kernel
theorem dX8_onJoin_0 : decode cX8_onJoin 0 = .ok (.aload_n 0, 1) := by decide +kernel
theorem dX8_onJoin_1 : decode cX8_onJoin 1 = .ok (.aload_n 1, 1) := by decide +kernel
theorem dX8_onJoin_2 : decode cX8_onJoin 2 = .ok (.iload_n 2, 1) := by decide +kernel
theorem dX8_onJoin_3 : decode cX8_onJoin 3 = .ok (.invokevirtual 112, 3) := by decide +kernel
theorem dX8_onJoin_6 : decode cX8_onJoin 6 = .ok (.iconst 0, 1) := by decide +kernel
theorem dX8_onJoin_7 : decode cX8_onJoin 7 = .ok (.istore_n 3, 1) := by decide +kernel
theorem dX8_onJoin_8 : decode cX8_onJoin 8 = .ok (.iload_n 3, 1) := by decide +kernel
theorem dX8_onJoin_9 : decode cX8_onJoin 9 = .ok (.aload_n 1, 1) := by decide +kernel
theorem dX8_onJoin_10 : decode cX8_onJoin 10 = .ok (.getfield 67, 3) := by decide +kernel
theorem dX8_onJoin_13 : decode cX8_onJoin 13 = .ok (.getfield 47, 3) := by decide +kernel
theorem dX8_onJoin_16 : decode cX8_onJoin 16 = .ok (.if_icmp .ge 41, 3) := by decide +kernel
theorem dX8_onJoin_19 : decode cX8_onJoin 19 = .ok (.aload_n 1, 1) := by decide +kernel
theorem dX8_onJoin_20 : decode cX8_onJoin 20 = .ok (.getfield 67, 3) := by decide +kernel
theorem dX8_onJoin_23 : decode cX8_onJoin 23 = .ok (.iload_n 3, 1) := by decide +kernel
theorem dX8_onJoin_24 : decode cX8_onJoin 24 = .ok (.invokevirtual 50, 3) := by decide +kernel
theorem dX8_onJoin_27 : decode cX8_onJoin 27 = .ok (.istore 4, 2) := by decide +kernel
theorem dX8_onJoin_29 : decode cX8_onJoin 29 = .ok (.iload 4, 2) := by decide +kernel
theorem dX8_onJoin_31 : decode cX8_onJoin 31 = .ok (.iload_n 2, 1) := by decide +kernel
theorem dX8_onJoin_32 : decode cX8_onJoin 32 = .ok (.if_icmp .eq 19, 3) := by decide +kernel
theorem dX8_onJoin_35 : decode cX8_onJoin 35 = .ok (.aload_n 0, 1) := by decide +kernel
theorem dX8_onJoin_36 : decode cX8_onJoin 36 = .ok (.aload_n 1, 1) := by decide +kernel
theorem dX8_onJoin_37 : decode cX8_onJoin 37 = .ok (.iload 4, 2) := by decide +kernel
theorem dX8_onJoin_39 : decode cX8_onJoin 39 = .ok (.iconst 2, 1) := by decide +kernel
theorem dX8_onJoin_40 : decode cX8_onJoin 40 = .ok (.iload_n 2, 1) := by decide +kernel
theorem dX8_onJoin_41 : decode cX8_onJoin 41 = .ok (.aload_n 0, 1) := by decide +kernel
theorem dX8_onJoin_42 : decode cX8_onJoin 42 = .ok (.getfield 33, 3) := by decide +kernel
theorem dX8_onJoin_45 : decode cX8_onJoin 45 = .ok (.getfield 115, 3) := by decide +kernel
theorem dX8_onJoin_48 : decode cX8_onJoin 48 = .ok (.invokevirtual 109, 3) := by decide +kernel
theorem dX8_onJoin_51 : decode cX8_onJoin 51 = .ok (.iinc 3 1, 3) := by decide +kernel
theorem dX8_onJoin_54 : decode cX8_onJoin 54 = .ok (.goto (-46), 3) := by decide +kernel
theorem dX8_onJoin_57 : decode cX8_onJoin 57 = .ok (.aload_n 0, 1) := by decide +kernel
theorem dX8_onJoin_58 : decode cX8_onJoin 58 = .ok (.aload_n 1, 1) := by decide +kernel
theorem dX8_onJoin_59 : decode cX8_onJoin 59 = .ok (.iload_n 2, 1) := by decide +kernel
theorem dX8_onJoin_60 : decode cX8_onJoin 60 = .ok (.iconst 3, 1) := by decide +kernel
theorem dX8_onJoin_61 : decode cX8_onJoin 61 = .ok (.iconst 0, 1) := by decide +kernel
theorem dX8_onJoin_62 : decode cX8_onJoin 62 = .ok (.iconst 0, 1) := by decide +kernel
theorem dX8_onJoin_63 : decode cX8_onJoin 63 = .ok (.invokevirtual 109, 3) := by decide +kernel
theorem dX8_onJoin_66 : decode cX8_onJoin 66 = .ok (.return_, 1) := by decide +kernel
theorem dX8_onWalk_0 : decode cX8_onWalk 0 = .ok (.iload_n 3, 1) := by decide +kernel
theorem dX8_onWalk_1 : decode cX8_onWalk 1 = .ok (.aload_n 1, 1) := by decide +kernel
theorem dX8_onWalk_2 : decode cX8_onWalk 2 = .ok (.getfield 34, 3) := by decide +kernel
theorem dX8_onWalk_5 : decode cX8_onWalk 5 = .ok (.if_icmp .ne 4, 3) := by decide +kernel
theorem dX8_onWalk_8 : decode cX8_onWalk 8 = .ok (.return_, 1) := by decide +kernel
theorem dX8_onWalk_9 : decode cX8_onWalk 9 = .ok (.bipush (-6), 2) := by decide +kernel
theorem dX8_onWalk_11 : decode cX8_onWalk 11 = .ok (.istore 5, 2) := by decide +kernel
theorem dX8_onWalk_13 : decode cX8_onWalk 13 = .ok (.iload 4, 2) := by decide +kernel
theorem dX8_onWalk_15 : decode cX8_onWalk 15 = .ok (.ifCond .le 48, 3) := by decide +kernel
theorem dX8_onWalk_18 : decode cX8_onWalk 18 = .ok (.aload_n 1, 1) := by decide +kernel
theorem dX8_onWalk_19 : decode cX8_onWalk 19 = .ok (.getfield 67, 3) := by decide +kernel
theorem dX8_onWalk_22 : decode cX8_onWalk 22 = .ok (.getfield 47, 3) := by decide +kernel
theorem dX8_onWalk_25 : decode cX8_onWalk 25 = .ok (.iconst 1, 1) := by decide +kernel
theorem dX8_onWalk_26 : decode cX8_onWalk 26 = .ok (.if_icmp .le 37, 3) := by decide +kernel
theorem dX8_onWalk_29 : decode cX8_onWalk 29 = .ok (.iload 4, 2) := by decide +kernel
theorem dX8_onWalk_31 : decode cX8_onWalk 31 = .ok (.aload_n 0, 1) := by decide +kernel
theorem dX8_onWalk_32 : decode cX8_onWalk 32 = .ok (.getfield 33, 3) := by decide +kernel
theorem dX8_onWalk_35 : decode cX8_onWalk 35 = .ok (.getfield 118, 3) := by decide +kernel
theorem dX8_onWalk_38 : decode cX8_onWalk 38 = .ok (.if_icmp .ne 9, 3) := by decide +kernel
theorem dX8_onWalk_41 : decode cX8_onWalk 41 = .ok (.aload_n 0, 1) := by decide +kernel
theorem dX8_onWalk_42 : decode cX8_onWalk 42 = .ok (.aload_n 1, 1) := by decide +kernel
theorem dX8_onWalk_43 : decode cX8_onWalk 43 = .ok (.iload_n 3, 1) := by decide +kernel
theorem dX8_onWalk_44 : decode cX8_onWalk 44 = .ok (.invokevirtual 101, 3) := by decide +kernel
theorem dX8_onWalk_47 : decode cX8_onWalk 47 = .ok (.aload_n 0, 1) := by decide +kernel
theorem dX8_onWalk_48 : decode cX8_onWalk 48 = .ok (.aload_n 1, 1) := by decide +kernel
theorem dX8_onWalk_49 : decode cX8_onWalk 49 = .ok (.getfield 67, 3) := by decide +kernel
theorem dX8_onWalk_52 : decode cX8_onWalk 52 = .ok (.iload_n 2, 1) := by decide +kernel
theorem dX8_onWalk_53 : decode cX8_onWalk 53 = .ok (.iload_n 3, 1) := by decide +kernel
theorem dX8_onWalk_54 : decode cX8_onWalk 54 = .ok (.invokevirtual 121, 3) := by decide +kernel
theorem dX8_onWalk_57 : decode cX8_onWalk 57 = .ok (.aload_n 0, 1) := by decide +kernel
theorem dX8_onWalk_58 : decode cX8_onWalk 58 = .ok (.invokevirtual 63, 3) := by decide +kernel
theorem dX8_onWalk_61 : decode cX8_onWalk 61 = .ok (.istore 5, 2) := by decide +kernel
theorem dX8_onWalk_63 : decode cX8_onWalk 63 = .ok (.iload 5, 2) := by decide +kernel
theorem dX8_onWalk_65 : decode cX8_onWalk 65 = .ok (.bipush (-6), 2) := by decide +kernel
theorem dX8_onWalk_67 : decode cX8_onWalk 67 = .ok (.if_icmp .eq 19, 3) := by decide +kernel
theorem dX8_onWalk_70 : decode cX8_onWalk 70 = .ok (.aload_n 0, 1) := by decide +kernel
theorem dX8_onWalk_71 : decode cX8_onWalk 71 = .ok (.aload_n 1, 1) := by decide +kernel
theorem dX8_onWalk_72 : decode cX8_onWalk 72 = .ok (.iload 5, 2) := by decide +kernel
theorem dX8_onWalk_74 : decode cX8_onWalk 74 = .ok (.iconst 2, 1) := by decide +kernel
theorem dX8_onWalk_75 : decode cX8_onWalk 75 = .ok (.iload_n 3, 1) := by decide +kernel
theorem dX8_onWalk_76 : decode cX8_onWalk 76 = .ok (.iload 4, 2) := by decide +kernel
theorem dX8_onWalk_78 : decode cX8_onWalk 78 = .ok (.iconst 1, 1) := by decide +kernel
theorem dX8_onWalk_79 : decode cX8_onWalk 79 = .ok (.isub, 1) := by decide +kernel
theorem dX8_onWalk_80 : decode cX8_onWalk 80 = .ok (.invokevirtual 109, 3) := by decide +kernel
theorem dX8_onWalk_83 : decode cX8_onWalk 83 = .ok (.goto 29, 3) := by decide +kernel
theorem dX8_onWalk_86 : decode cX8_onWalk 86 = .ok (.aload_n 1, 1) := by decide +kernel
theorem dX8_onWalk_87 : decode cX8_onWalk 87 = .ok (.getfield 67, 3) := by decide +kernel
theorem dX8_onWalk_90 : decode cX8_onWalk 90 = .ok (.iload_n 3, 1) := by decide +kernel
theorem dX8_onWalk_91 : decode cX8_onWalk 91 = .ok (.invokevirtual 74, 3) := by decide +kernel
theorem dX8_onWalk_94 : decode cX8_onWalk 94 = .ok (.ifCond .ne 18, 3) := by decide +kernel
theorem dX8_onWalk_97 : decode cX8_onWalk 97 = .ok (.aload_n 0, 1) := by decide +kernel
theorem dX8_onWalk_98 : decode cX8_onWalk 98 = .ok (.aload_n 1, 1) := by decide +kernel
theorem dX8_onWalk_99 : decode cX8_onWalk 99 = .ok (.iload_n 3, 1) := by decide +kernel
theorem dX8_onWalk_100 : decode cX8_onWalk 100 = .ok (.invokevirtual 112, 3) := by decide +kernel
theorem dX8_onWalk_103 : decode cX8_onWalk 103 = .ok (.aload_n 0, 1) := by decide +kernel
theorem dX8_onWalk_104 : decode cX8_onWalk 104 = .ok (.aload_n 1, 1) := by decide +kernel
theorem dX8_onWalk_105 : decode cX8_onWalk 105 = .ok (.iload_n 3, 1) := by decide +kernel
theorem dX8_onWalk_106 : decode cX8_onWalk 106 = .ok (.iconst 3, 1) := by decide +kernel
theorem dX8_onWalk_107 : decode cX8_onWalk 107 = .ok (.iconst 0, 1) := by decide +kernel
theorem dX8_onWalk_108 : decode cX8_onWalk 108 = .ok (.iconst 0, 1) := by decide +kernel
theorem dX8_onWalk_109 : decode cX8_onWalk 109 = .ok (.invokevirtual 109, 3) := by decide +kernel
theorem dX8_onWalk_112 : decode cX8_onWalk 112 = .ok (.return_, 1) := by decide +kernel
theorem dX8_onWelcome_0 : decode cX8_onWelcome 0 = .ok (.aload_n 0, 1) := by decide +kernel
theorem dX8_onWelcome_1 : decode cX8_onWelcome 1 = .ok (.aload_n 1, 1) := by decide +kernel
theorem dX8_onWelcome_2 : decode cX8_onWelcome 2 = .ok (.iload_n 2, 1) := by decide +kernel
theorem dX8_onWelcome_3 : decode cX8_onWelcome 3 = .ok (.invokevirtual 112, 3) := by decide +kernel
theorem dX8_onWelcome_6 : decode cX8_onWelcome 6 = .ok (.aload_n 1, 1) := by decide +kernel
theorem dX8_onWelcome_7 : decode cX8_onWelcome 7 = .ok (.iconst 0, 1) := by decide +kernel
theorem dX8_onWelcome_8 : decode cX8_onWelcome 8 = .ok (.putfield 106, 3) := by decide +kernel
theorem dX8_onWelcome_11 : decode cX8_onWelcome 11 = .ok (.return_, 1) := by decide +kernel
theorem dX8_onParting_0 : decode cX8_onParting 0 = .ok (.aload_n 1, 1) := by decide +kernel
theorem dX8_onParting_1 : decode cX8_onParting 1 = .ok (.getfield 67, 3) := by decide +kernel
theorem dX8_onParting_4 : decode cX8_onParting 4 = .ok (.iload_n 2, 1) := by decide +kernel
theorem dX8_onParting_5 : decode cX8_onParting 5 = .ok (.invokevirtual 74, 3) := by decide +kernel
theorem dX8_onParting_8 : decode cX8_onParting 8 = .ok (.ifCond .eq 19, 3) := by decide +kernel
theorem dX8_onParting_11 : decode cX8_onParting 11 = .ok (.aload_n 1, 1) := by decide +kernel
theorem dX8_onParting_12 : decode cX8_onParting 12 = .ok (.iload_n 2, 1) := by decide +kernel
theorem dX8_onParting_13 : decode cX8_onParting 13 = .ok (.invokevirtual 98, 3) := by decide +kernel
theorem dX8_onParting_16 : decode cX8_onParting 16 = .ok (.aload_n 0, 1) := by decide +kernel
theorem dX8_onParting_17 : decode cX8_onParting 17 = .ok (.aload_n 1, 1) := by decide +kernel
theorem dX8_onParting_18 : decode cX8_onParting 18 = .ok (.iload_n 2, 1) := by decide +kernel
theorem dX8_onParting_19 : decode cX8_onParting 19 = .ok (.invokevirtual 101, 3) := by decide +kernel
theorem dX8_onParting_22 : decode cX8_onParting 22 = .ok (.aload_n 0, 1) := by decide +kernel
theorem dX8_onParting_23 : decode cX8_onParting 23 = .ok (.aload_n 1, 1) := by decide +kernel
theorem dX8_onParting_24 : decode cX8_onParting 24 = .ok (.invokevirtual 125, 3) := by decide +kernel
theorem dX8_onParting_27 : decode cX8_onParting 27 = .ok (.return_, 1) := by decide +kernel
theorem dX8_onAsking_0 : decode cX8_onAsking 0 = .ok (.iload_n 3, 1) := by decide +kernel
theorem dX8_onAsking_1 : decode cX8_onAsking 1 = .ok (.iconst 1, 1) := by decide +kernel
theorem dX8_onAsking_2 : decode cX8_onAsking 2 = .ok (.if_icmp .eq 22, 3) := by decide +kernel
theorem dX8_onAsking_5 : decode cX8_onAsking 5 = .ok (.aload_n 0, 1) := by decide +kernel
theorem dX8_onAsking_6 : decode cX8_onAsking 6 = .ok (.aload_n 1, 1) := by decide +kernel
theorem dX8_onAsking_7 : decode cX8_onAsking 7 = .ok (.invokevirtual 84, 3) := by decide +kernel
theorem dX8_onAsking_10 : decode cX8_onAsking 10 = .ok (.ifCond .eq 14, 3) := by decide +kernel
theorem dX8_onAsking_13 : decode cX8_onAsking 13 = .ok (.aload_n 1, 1) := by decide +kernel
theorem dX8_onAsking_14 : decode cX8_onAsking 14 = .ok (.getfield 67, 3) := by decide +kernel
theorem dX8_onAsking_17 : decode cX8_onAsking 17 = .ok (.iload_n 2, 1) := by decide +kernel
theorem dX8_onAsking_18 : decode cX8_onAsking 18 = .ok (.invokevirtual 74, 3) := by decide +kernel
theorem dX8_onAsking_21 : decode cX8_onAsking 21 = .ok (.ifCond .eq 21, 3) := by decide +kernel
theorem dX8_onAsking_24 : decode cX8_onAsking 24 = .ok (.aload_n 0, 1) := by decide +kernel
theorem dX8_onAsking_25 : decode cX8_onAsking 25 = .ok (.aload_n 1, 1) := by decide +kernel
theorem dX8_onAsking_26 : decode cX8_onAsking 26 = .ok (.iload_n 2, 1) := by decide +kernel
theorem dX8_onAsking_27 : decode cX8_onAsking 27 = .ok (.invokevirtual 112, 3) := by decide +kernel
theorem dX8_onAsking_30 : decode cX8_onAsking 30 = .ok (.aload_n 0, 1) := by decide +kernel
theorem dX8_onAsking_31 : decode cX8_onAsking 31 = .ok (.aload_n 1, 1) := by decide +kernel
theorem dX8_onAsking_32 : decode cX8_onAsking 32 = .ok (.iload_n 2, 1) := by decide +kernel
theorem dX8_onAsking_33 : decode cX8_onAsking 33 = .ok (.iconst 3, 1) := by decide +kernel
theorem dX8_onAsking_34 : decode cX8_onAsking 34 = .ok (.iconst 0, 1) := by decide +kernel
theorem dX8_onAsking_35 : decode cX8_onAsking 35 = .ok (.iconst 0, 1) := by decide +kernel
theorem dX8_onAsking_36 : decode cX8_onAsking 36 = .ok (.invokevirtual 109, 3) := by decide +kernel
theorem dX8_onAsking_39 : decode cX8_onAsking 39 = .ok (.goto 13, 3) := by decide +kernel
theorem dX8_onAsking_42 : decode cX8_onAsking 42 = .ok (.aload_n 0, 1) := by decide +kernel
theorem dX8_onAsking_43 : decode cX8_onAsking 43 = .ok (.aload_n 1, 1) := by decide +kernel
theorem dX8_onAsking_44 : decode cX8_onAsking 44 = .ok (.iload_n 2, 1) := by decide +kernel
theorem dX8_onAsking_45 : decode cX8_onAsking 45 = .ok (.bipush 6, 2) := by decide +kernel
theorem dX8_onAsking_47 : decode cX8_onAsking 47 = .ok (.iconst 0, 1) := by decide +kernel
theorem dX8_onAsking_48 : decode cX8_onAsking 48 = .ok (.iconst 0, 1) := by decide +kernel
theorem dX8_onAsking_49 : decode cX8_onAsking 49 = .ok (.invokevirtual 109, 3) := by decide +kernel
theorem dX8_onAsking_52 : decode cX8_onAsking 52 = .ok (.return_, 1) := by decide +kernel
theorem dX8_onRefusal_0 : decode cX8_onRefusal 0 = .ok (.aload_n 1, 1) := by decide +kernel
theorem dX8_onRefusal_1 : decode cX8_onRefusal 1 = .ok (.getfield 95, 3) := by decide +kernel
theorem dX8_onRefusal_4 : decode cX8_onRefusal 4 = .ok (.iload_n 2, 1) := by decide +kernel
theorem dX8_onRefusal_5 : decode cX8_onRefusal 5 = .ok (.if_icmp .ne 26, 3) := by decide +kernel
theorem dX8_onRefusal_8 : decode cX8_onRefusal 8 = .ok (.aload_n 1, 1) := by decide +kernel
theorem dX8_onRefusal_9 : decode cX8_onRefusal 9 = .ok (.bipush (-6), 2) := by decide +kernel
theorem dX8_onRefusal_11 : decode cX8_onRefusal 11 = .ok (.putfield 95, 3) := by decide +kernel
theorem dX8_onRefusal_14 : decode cX8_onRefusal 14 = .ok (.aload_n 1, 1) := by decide +kernel
theorem dX8_onRefusal_15 : decode cX8_onRefusal 15 = .ok (.dup, 1) := by decide +kernel
theorem dX8_onRefusal_16 : decode cX8_onRefusal 16 = .ok (.getfield 106, 3) := by decide +kernel
theorem dX8_onRefusal_19 : decode cX8_onRefusal 19 = .ok (.iconst 1, 1) := by decide +kernel
theorem dX8_onRefusal_20 : decode cX8_onRefusal 20 = .ok (.iload_n 2, 1) := by decide +kernel
theorem dX8_onRefusal_21 : decode cX8_onRefusal 21 = .ok (.ishl, 1) := by decide +kernel
theorem dX8_onRefusal_22 : decode cX8_onRefusal 22 = .ok (.ior, 1) := by decide +kernel
theorem dX8_onRefusal_23 : decode cX8_onRefusal 23 = .ok (.putfield 106, 3) := by decide +kernel
theorem dX8_onRefusal_26 : decode cX8_onRefusal 26 = .ok (.aload_n 0, 1) := by decide +kernel
theorem dX8_onRefusal_27 : decode cX8_onRefusal 27 = .ok (.aload_n 1, 1) := by decide +kernel
theorem dX8_onRefusal_28 : decode cX8_onRefusal 28 = .ok (.invokevirtual 125, 3) := by decide +kernel
theorem dX8_onRefusal_31 : decode cX8_onRefusal 31 = .ok (.return_, 1) := by decide +kernel
theorem dX8_onMix_0 : decode cX8_onMix 0 = .ok (.bipush (-6), 2) := by decide +kernel
theorem dX8_onMix_2 : decode cX8_onMix 2 = .ok (.istore_n 3, 1) := by decide +kernel
theorem dX8_onMix_3 : decode cX8_onMix 3 = .ok (.aload_n 2, 1) := by decide +kernel
theorem dX8_onMix_4 : decode cX8_onMix 4 = .ok (.getfield 129, 3) := by decide +kernel
theorem dX8_onMix_7 : decode cX8_onMix 7 = .ok (.iconst 1, 1) := by decide +kernel
theorem dX8_onMix_8 : decode cX8_onMix 8 = .ok (.if_icmp .le 24, 3) := by decide +kernel
theorem dX8_onMix_11 : decode cX8_onMix 11 = .ok (.aload_n 0, 1) := by decide +kernel
theorem dX8_onMix_12 : decode cX8_onMix 12 = .ok (.aload_n 1, 1) := by decide +kernel
theorem dX8_onMix_13 : decode cX8_onMix 13 = .ok (.getfield 67, 3) := by decide +kernel
theorem dX8_onMix_16 : decode cX8_onMix 16 = .ok (.aload_n 2, 1) := by decide +kernel
theorem dX8_onMix_17 : decode cX8_onMix 17 = .ok (.getfield 134, 3) := by decide +kernel
theorem dX8_onMix_20 : decode cX8_onMix 20 = .ok (.aload_n 2, 1) := by decide +kernel
theorem dX8_onMix_21 : decode cX8_onMix 21 = .ok (.getfield 137, 3) := by decide +kernel
theorem dX8_onMix_24 : decode cX8_onMix 24 = .ok (.invokevirtual 121, 3) := by decide +kernel
theorem dX8_onMix_27 : decode cX8_onMix 27 = .ok (.aload_n 0, 1) := by decide +kernel
theorem dX8_onMix_28 : decode cX8_onMix 28 = .ok (.invokevirtual 63, 3) := by decide +kernel
theorem dX8_onMix_31 : decode cX8_onMix 31 = .ok (.istore_n 3, 1) := by decide +kernel
theorem dX8_onMix_32 : decode cX8_onMix 32 = .ok (.iload_n 3, 1) := by decide +kernel
theorem dX8_onMix_33 : decode cX8_onMix 33 = .ok (.bipush (-6), 2) := by decide +kernel
theorem dX8_onMix_35 : decode cX8_onMix 35 = .ok (.if_icmp .eq 32, 3) := by decide +kernel
theorem dX8_onMix_38 : decode cX8_onMix 38 = .ok (.aload_n 0, 1) := by decide +kernel
theorem dX8_onMix_39 : decode cX8_onMix 39 = .ok (.getfield 23, 3) := by decide +kernel
theorem dX8_onMix_42 : decode cX8_onMix 42 = .ok (.aload_n 1, 1) := by decide +kernel
theorem dX8_onMix_43 : decode cX8_onMix 43 = .ok (.getfield 34, 3) := by decide +kernel
theorem dX8_onMix_46 : decode cX8_onMix 46 = .ok (.iload_n 3, 1) := by decide +kernel
theorem dX8_onMix_47 : decode cX8_onMix 47 = .ok (.bipush 7, 2) := by decide +kernel
theorem dX8_onMix_49 : decode cX8_onMix 49 = .ok (.aload_n 2, 1) := by decide +kernel
theorem dX8_onMix_50 : decode cX8_onMix 50 = .ok (.getfield 137, 3) := by decide +kernel
theorem dX8_onMix_53 : decode cX8_onMix 53 = .ok (.aload_n 2, 1) := by decide +kernel
theorem dX8_onMix_54 : decode cX8_onMix 54 = .ok (.getfield 129, 3) := by decide +kernel
theorem dX8_onMix_57 : decode cX8_onMix 57 = .ok (.iconst 1, 1) := by decide +kernel
theorem dX8_onMix_58 : decode cX8_onMix 58 = .ok (.isub, 1) := by decide +kernel
theorem dX8_onMix_59 : decode cX8_onMix 59 = .ok (.aload_n 2, 1) := by decide +kernel
theorem dX8_onMix_60 : decode cX8_onMix 60 = .ok (.getfield 140, 3) := by decide +kernel
theorem dX8_onMix_63 : decode cX8_onMix 63 = .ok (.invokevirtual 143, 3) := by decide +kernel
theorem dX8_onMix_66 : decode cX8_onMix 66 = .ok (.return_, 1) := by decide +kernel
theorem dX8_onMix_67 : decode cX8_onMix 67 = .ok (.aload_n 2, 1) := by decide +kernel
theorem dX8_onMix_68 : decode cX8_onMix 68 = .ok (.getfield 137, 3) := by decide +kernel
theorem dX8_onMix_71 : decode cX8_onMix 71 = .ok (.aload_n 1, 1) := by decide +kernel
theorem dX8_onMix_72 : decode cX8_onMix 72 = .ok (.getfield 34, 3) := by decide +kernel
theorem dX8_onMix_75 : decode cX8_onMix 75 = .ok (.if_icmp .eq 19, 3) := by decide +kernel
theorem dX8_onMix_78 : decode cX8_onMix 78 = .ok (.aload_n 0, 1) := by decide +kernel
theorem dX8_onMix_79 : decode cX8_onMix 79 = .ok (.aload_n 1, 1) := by decide +kernel
theorem dX8_onMix_80 : decode cX8_onMix 80 = .ok (.aload_n 2, 1) := by decide +kernel
theorem dX8_onMix_81 : decode cX8_onMix 81 = .ok (.getfield 137, 3) := by decide +kernel
theorem dX8_onMix_84 : decode cX8_onMix 84 = .ok (.aload_n 2, 1) := by decide +kernel
theorem dX8_onMix_85 : decode cX8_onMix 85 = .ok (.getfield 140, 3) := by decide +kernel
theorem dX8_onMix_88 : decode cX8_onMix 88 = .ok (.getfield 47, 3) := by decide +kernel
theorem dX8_onMix_91 : decode cX8_onMix 91 = .ok (.invokevirtual 147, 3) := by decide +kernel
theorem dX8_onMix_94 : decode cX8_onMix 94 = .ok (.aload_n 0, 1) := by decide +kernel
theorem dX8_onMix_95 : decode cX8_onMix 95 = .ok (.aload_n 1, 1) := by decide +kernel
theorem dX8_onMix_96 : decode cX8_onMix 96 = .ok (.aload_n 2, 1) := by decide +kernel
theorem dX8_onMix_97 : decode cX8_onMix 97 = .ok (.getfield 140, 3) := by decide +kernel
theorem dX8_onMix_100 : decode cX8_onMix 100 = .ok (.invokevirtual 151, 3) := by decide +kernel
theorem dX8_onMix_103 : decode cX8_onMix 103 = .ok (.return_, 1) := by decide +kernel
theorem dX8_answerMix_0 : decode cX8_answerMix 0 = .ok (.aload_n 0, 1) := by decide +kernel
theorem dX8_answerMix_1 : decode cX8_answerMix 1 = .ok (.getfield 20, 3) := by decide +kernel
theorem dX8_answerMix_4 : decode cX8_answerMix 4 = .ok (.invokevirtual 44, 3) := by decide +kernel
theorem dX8_answerMix_7 : decode cX8_answerMix 7 = .ok (.aload_n 0, 1) := by decide +kernel
theorem dX8_answerMix_8 : decode cX8_answerMix 8 = .ok (.aload_n 1, 1) := by decide +kernel
theorem dX8_answerMix_9 : decode cX8_answerMix 9 = .ok (.getfield 78, 3) := by decide +kernel
theorem dX8_answerMix_12 : decode cX8_answerMix 12 = .ok (.bipush (-6), 2) := by decide +kernel
theorem dX8_answerMix_14 : decode cX8_answerMix 14 = .ok (.bipush (-6), 2) := by decide +kernel
theorem dX8_answerMix_16 : decode cX8_answerMix 16 = .ok (.invokevirtual 121, 3) := by decide +kernel
theorem dX8_answerMix_19 : decode cX8_answerMix 19 = .ok (.aload_n 0, 1) := by decide +kernel
theorem dX8_answerMix_20 : decode cX8_answerMix 20 = .ok (.iload_n 3, 1) := by decide +kernel
theorem dX8_answerMix_21 : decode cX8_answerMix 21 = .ok (.invokevirtual 155, 3) := by decide +kernel
theorem dX8_answerMix_24 : decode cX8_answerMix 24 = .ok (.aload_n 0, 1) := by decide +kernel
theorem dX8_answerMix_25 : decode cX8_answerMix 25 = .ok (.getfield 23, 3) := by decide +kernel
theorem dX8_answerMix_28 : decode cX8_answerMix 28 = .ok (.aload_n 1, 1) := by decide +kernel
theorem dX8_answerMix_29 : decode cX8_answerMix 29 = .ok (.getfield 34, 3) := by decide +kernel
theorem dX8_answerMix_32 : decode cX8_answerMix 32 = .ok (.iload_n 2, 1) := by decide +kernel
theorem dX8_answerMix_33 : decode cX8_answerMix 33 = .ok (.bipush 8, 2) := by decide +kernel
theorem dX8_answerMix_35 : decode cX8_answerMix 35 = .ok (.iconst 0, 1) := by decide +kernel
theorem dX8_answerMix_36 : decode cX8_answerMix 36 = .ok (.iconst 0, 1) := by decide +kernel
theorem dX8_answerMix_37 : decode cX8_answerMix 37 = .ok (.aload_n 0, 1) := by decide +kernel
theorem dX8_answerMix_38 : decode cX8_answerMix 38 = .ok (.getfield 20, 3) := by decide +kernel
theorem dX8_answerMix_41 : decode cX8_answerMix 41 = .ok (.invokevirtual 143, 3) := by decide +kernel
theorem dX8_answerMix_44 : decode cX8_answerMix 44 = .ok (.return_, 1) := by decide +kernel
theorem dX8_takeList_0 : decode cX8_takeList 0 = .ok (.iconst 0, 1) := by decide +kernel
theorem dX8_takeList_1 : decode cX8_takeList 1 = .ok (.istore_n 3, 1) := by decide +kernel
theorem dX8_takeList_2 : decode cX8_takeList 2 = .ok (.iload_n 3, 1) := by decide +kernel
theorem dX8_takeList_3 : decode cX8_takeList 3 = .ok (.aload_n 2, 1) := by decide +kernel
theorem dX8_takeList_4 : decode cX8_takeList 4 = .ok (.getfield 47, 3) := by decide +kernel
theorem dX8_takeList_7 : decode cX8_takeList 7 = .ok (.if_icmp .ge 19, 3) := by decide +kernel
theorem dX8_takeList_10 : decode cX8_takeList 10 = .ok (.aload_n 0, 1) := by decide +kernel
theorem dX8_takeList_11 : decode cX8_takeList 11 = .ok (.aload_n 1, 1) := by decide +kernel
theorem dX8_takeList_12 : decode cX8_takeList 12 = .ok (.aload_n 2, 1) := by decide +kernel
theorem dX8_takeList_13 : decode cX8_takeList 13 = .ok (.iload_n 3, 1) := by decide +kernel
theorem dX8_takeList_14 : decode cX8_takeList 14 = .ok (.invokevirtual 50, 3) := by decide +kernel
theorem dX8_takeList_17 : decode cX8_takeList 17 = .ok (.invokevirtual 101, 3) := by decide +kernel
theorem dX8_takeList_20 : decode cX8_takeList 20 = .ok (.iinc 3 1, 3) := by decide +kernel
theorem dX8_takeList_23 : decode cX8_takeList 23 = .ok (.goto (-21), 3) := by decide +kernel
theorem dX8_takeList_26 : decode cX8_takeList 26 = .ok (.return_, 1) := by decide +kernel
theorem dX8_onStopped_0 : decode cX8_onStopped 0 = .ok (.aload_n 1, 1) := by decide +kernel
theorem dX8_onStopped_1 : decode cX8_onStopped 1 = .ok (.iload_n 2, 1) := by decide +kernel
theorem dX8_onStopped_2 : decode cX8_onStopped 2 = .ok (.invokevirtual 98, 3) := by decide +kernel
theorem dX8_onStopped_5 : decode cX8_onStopped 5 = .ok (.aload_n 1, 1) := by decide +kernel
theorem dX8_onStopped_6 : decode cX8_onStopped 6 = .ok (.getfield 78, 3) := by decide +kernel
theorem dX8_onStopped_9 : decode cX8_onStopped 9 = .ok (.iload_n 2, 1) := by decide +kernel
theorem dX8_onStopped_10 : decode cX8_onStopped 10 = .ok (.invokevirtual 81, 3) := by decide +kernel
theorem dX8_onStopped_13 : decode cX8_onStopped 13 = .ok (.aload_n 1, 1) := by decide +kernel
theorem dX8_onStopped_14 : decode cX8_onStopped 14 = .ok (.getfield 95, 3) := by decide +kernel
theorem dX8_onStopped_17 : decode cX8_onStopped 17 = .ok (.iload_n 2, 1) := by decide +kernel
theorem dX8_onStopped_18 : decode cX8_onStopped 18 = .ok (.if_icmp .ne 9, 3) := by decide +kernel
theorem dX8_onStopped_21 : decode cX8_onStopped 21 = .ok (.aload_n 1, 1) := by decide +kernel
theorem dX8_onStopped_22 : decode cX8_onStopped 22 = .ok (.bipush (-6), 2) := by decide +kernel
theorem dX8_onStopped_24 : decode cX8_onStopped 24 = .ok (.putfield 95, 3) := by decide +kernel
theorem dX8_onStopped_27 : decode cX8_onStopped 27 = .ok (.aload_n 0, 1) := by decide +kernel
theorem dX8_onStopped_28 : decode cX8_onStopped 28 = .ok (.aload_n 1, 1) := by decide +kernel
theorem dX8_onStopped_29 : decode cX8_onStopped 29 = .ok (.invokevirtual 125, 3) := by decide +kernel
theorem dX8_onStopped_32 : decode cX8_onStopped 32 = .ok (.return_, 1) := by decide +kernel
theorem dX8_beginMix_0 : decode cX8_beginMix 0 = .ok (.aload_n 0, 1) := by decide +kernel
theorem dX8_beginMix_1 : decode cX8_beginMix 1 = .ok (.aload_n 1, 1) := by decide +kernel
theorem dX8_beginMix_2 : decode cX8_beginMix 2 = .ok (.getfield 67, 3) := by decide +kernel
theorem dX8_beginMix_5 : decode cX8_beginMix 5 = .ok (.bipush (-6), 2) := by decide +kernel
theorem dX8_beginMix_7 : decode cX8_beginMix 7 = .ok (.bipush (-6), 2) := by decide +kernel
theorem dX8_beginMix_9 : decode cX8_beginMix 9 = .ok (.invokevirtual 121, 3) := by decide +kernel
theorem dX8_beginMix_12 : decode cX8_beginMix 12 = .ok (.aload_n 0, 1) := by decide +kernel
theorem dX8_beginMix_13 : decode cX8_beginMix 13 = .ok (.invokevirtual 63, 3) := by decide +kernel
theorem dX8_beginMix_16 : decode cX8_beginMix 16 = .ok (.istore_n 2, 1) := by decide +kernel
theorem dX8_beginMix_17 : decode cX8_beginMix 17 = .ok (.iload_n 2, 1) := by decide +kernel
theorem dX8_beginMix_18 : decode cX8_beginMix 18 = .ok (.bipush (-6), 2) := by decide +kernel
theorem dX8_beginMix_20 : decode cX8_beginMix 20 = .ok (.if_icmp .ne 6, 3) := by decide +kernel
theorem dX8_beginMix_23 : decode cX8_beginMix 23 = .ok (.bipush (-5), 2) := by decide +kernel
theorem dX8_beginMix_25 : decode cX8_beginMix 25 = .ok (.ireturn, 1) := by decide +kernel
theorem dX8_beginMix_26 : decode cX8_beginMix 26 = .ok (.aload_n 0, 1) := by decide +kernel
theorem dX8_beginMix_27 : decode cX8_beginMix 27 = .ok (.getfield 20, 3) := by decide +kernel
theorem dX8_beginMix_30 : decode cX8_beginMix 30 = .ok (.invokevirtual 44, 3) := by decide +kernel
theorem dX8_beginMix_33 : decode cX8_beginMix 33 = .ok (.aload_n 0, 1) := by decide +kernel
theorem dX8_beginMix_34 : decode cX8_beginMix 34 = .ok (.getfield 20, 3) := by decide +kernel
theorem dX8_beginMix_37 : decode cX8_beginMix 37 = .ok (.aload_n 1, 1) := by decide +kernel
theorem dX8_beginMix_38 : decode cX8_beginMix 38 = .ok (.getfield 34, 3) := by decide +kernel
theorem dX8_beginMix_41 : decode cX8_beginMix 41 = .ok (.invokevirtual 54, 3) := by decide +kernel
theorem dX8_beginMix_44 : decode cX8_beginMix 44 = .ok (.aload_n 0, 1) := by decide +kernel
theorem dX8_beginMix_45 : decode cX8_beginMix 45 = .ok (.iconst 2, 1) := by decide +kernel
theorem dX8_beginMix_46 : decode cX8_beginMix 46 = .ok (.invokevirtual 155, 3) := by decide +kernel
theorem dX8_beginMix_49 : decode cX8_beginMix 49 = .ok (.aload_n 0, 1) := by decide +kernel
theorem dX8_beginMix_50 : decode cX8_beginMix 50 = .ok (.aload_n 1, 1) := by decide +kernel
theorem dX8_beginMix_51 : decode cX8_beginMix 51 = .ok (.getfield 78, 3) := by decide +kernel
theorem dX8_beginMix_54 : decode cX8_beginMix 54 = .ok (.bipush (-6), 2) := by decide +kernel
theorem dX8_beginMix_56 : decode cX8_beginMix 56 = .ok (.bipush (-6), 2) := by decide +kernel
theorem dX8_beginMix_58 : decode cX8_beginMix 58 = .ok (.invokevirtual 121, 3) := by decide +kernel
theorem dX8_beginMix_61 : decode cX8_beginMix 61 = .ok (.aload_n 0, 1) := by decide +kernel
theorem dX8_beginMix_62 : decode cX8_beginMix 62 = .ok (.iconst 2, 1) := by decide +kernel
theorem dX8_beginMix_63 : decode cX8_beginMix 63 = .ok (.invokevirtual 155, 3) := by decide +kernel
theorem dX8_beginMix_66 : decode cX8_beginMix 66 = .ok (.aload_n 0, 1) := by decide +kernel
theorem dX8_beginMix_67 : decode cX8_beginMix 67 = .ok (.getfield 23, 3) := by decide +kernel
theorem dX8_beginMix_70 : decode cX8_beginMix 70 = .ok (.aload_n 1, 1) := by decide +kernel
theorem dX8_beginMix_71 : decode cX8_beginMix 71 = .ok (.getfield 34, 3) := by decide +kernel
theorem dX8_beginMix_74 : decode cX8_beginMix 74 = .ok (.iload_n 2, 1) := by decide +kernel
theorem dX8_beginMix_75 : decode cX8_beginMix 75 = .ok (.bipush 7, 2) := by decide +kernel
theorem dX8_beginMix_77 : decode cX8_beginMix 77 = .ok (.aload_n 1, 1) := by decide +kernel
theorem dX8_beginMix_78 : decode cX8_beginMix 78 = .ok (.getfield 34, 3) := by decide +kernel
theorem dX8_beginMix_81 : decode cX8_beginMix 81 = .ok (.aload_n 0, 1) := by decide +kernel
theorem dX8_beginMix_82 : decode cX8_beginMix 82 = .ok (.getfield 33, 3) := by decide +kernel
theorem dX8_beginMix_85 : decode cX8_beginMix 85 = .ok (.getfield 115, 3) := by decide +kernel
theorem dX8_beginMix_88 : decode cX8_beginMix 88 = .ok (.aload_n 0, 1) := by decide +kernel
theorem dX8_beginMix_89 : decode cX8_beginMix 89 = .ok (.getfield 20, 3) := by decide +kernel
theorem dX8_beginMix_92 : decode cX8_beginMix 92 = .ok (.invokevirtual 143, 3) := by decide +kernel
theorem dX8_beginMix_95 : decode cX8_beginMix 95 = .ok (.iload_n 2, 1) := by decide +kernel
theorem dX8_beginMix_96 : decode cX8_beginMix 96 = .ok (.ireturn, 1) := by decide +kernel
theorem dX9_init_0 : decode cX9_init 0 = .ok (.aload_n 0, 1) := by decide +kernel
theorem dX9_init_1 : decode cX9_init 1 = .ok (.invokespecial 3, 3) := by decide +kernel
theorem dX9_init_4 : decode cX9_init 4 = .ok (.aload_n 0, 1) := by decide +kernel
theorem dX9_init_5 : decode cX9_init 5 = .ok (.new 9, 3) := by decide +kernel
theorem dX9_init_8 : decode cX9_init 8 = .ok (.dup, 1) := by decide +kernel
theorem dX9_init_9 : decode cX9_init 9 = .ok (.invokespecial 11, 3) := by decide +kernel
theorem dX9_init_12 : decode cX9_init 12 = .ok (.putfield 12, 3) := by decide +kernel
theorem dX9_init_15 : decode cX9_init 15 = .ok (.aload_n 0, 1) := by decide +kernel
theorem dX9_init_16 : decode cX9_init 16 = .ok (.bipush 16, 2) := by decide +kernel
theorem dX9_init_18 : decode cX9_init 18 = .ok (.anewarray 18, 3) := by decide +kernel
theorem dX9_init_21 : decode cX9_init 21 = .ok (.putfield 20, 3) := by decide +kernel
theorem dX9_init_24 : decode cX9_init 24 = .ok (.aload_n 0, 1) := by decide +kernel
theorem dX9_init_25 : decode cX9_init 25 = .ok (.new 18, 3) := by decide +kernel
theorem dX9_init_28 : decode cX9_init 28 = .ok (.dup, 1) := by decide +kernel
theorem dX9_init_29 : decode cX9_init 29 = .ok (.iconst 0, 1) := by decide +kernel
theorem dX9_init_30 : decode cX9_init 30 = .ok (.invokespecial 24, 3) := by decide +kernel
theorem dX9_init_33 : decode cX9_init 33 = .ok (.putfield 27, 3) := by decide +kernel
theorem dX9_init_36 : decode cX9_init 36 = .ok (.aload_n 0, 1) := by decide +kernel
theorem dX9_init_37 : decode cX9_init 37 = .ok (.new 31, 3) := by decide +kernel
theorem dX9_init_40 : decode cX9_init 40 = .ok (.dup, 1) := by decide +kernel
theorem dX9_init_41 : decode cX9_init 41 = .ok (.invokespecial 33, 3) := by decide +kernel
theorem dX9_init_44 : decode cX9_init 44 = .ok (.putfield 34, 3) := by decide +kernel
theorem dX9_init_47 : decode cX9_init 47 = .ok (.aload_n 0, 1) := by decide +kernel
theorem dX9_init_48 : decode cX9_init 48 = .ok (.new 38, 3) := by decide +kernel
theorem dX9_init_51 : decode cX9_init 51 = .ok (.dup, 1) := by decide +kernel
theorem dX9_init_52 : decode cX9_init 52 = .ok (.invokespecial 40, 3) := by decide +kernel
theorem dX9_init_55 : decode cX9_init 55 = .ok (.putfield 41, 3) := by decide +kernel
theorem dX9_init_58 : decode cX9_init 58 = .ok (.aload_n 0, 1) := by decide +kernel
theorem dX9_init_59 : decode cX9_init 59 = .ok (.bipush 13, 2) := by decide +kernel
theorem dX9_init_61 : decode cX9_init 61 = .ok (.newarray .int, 2) := by decide +kernel
theorem dX9_init_63 : decode cX9_init 63 = .ok (.putfield 45, 3) := by decide +kernel
theorem dX9_init_66 : decode cX9_init 66 = .ok (.aload_n 0, 1) := by decide +kernel
theorem dX9_init_67 : decode cX9_init 67 = .ok (.iconst 0, 1) := by decide +kernel
theorem dX9_init_68 : decode cX9_init 68 = .ok (.putfield 49, 3) := by decide +kernel
theorem dX9_init_71 : decode cX9_init 71 = .ok (.aload_n 0, 1) := by decide +kernel
theorem dX9_init_72 : decode cX9_init 72 = .ok (.iconst 0, 1) := by decide +kernel
theorem dX9_init_73 : decode cX9_init 73 = .ok (.putfield 53, 3) := by decide +kernel
theorem dX9_init_76 : decode cX9_init 76 = .ok (.aload_n 0, 1) := by decide +kernel
theorem dX9_init_77 : decode cX9_init 77 = .ok (.iconst 0, 1) := by decide +kernel
theorem dX9_init_78 : decode cX9_init 78 = .ok (.putfield 56, 3) := by decide +kernel
theorem dX9_init_81 : decode cX9_init 81 = .ok (.aload_n 0, 1) := by decide +kernel
theorem dX9_init_82 : decode cX9_init 82 = .ok (.iconst 0, 1) := by decide +kernel
theorem dX9_init_83 : decode cX9_init 83 = .ok (.putfield 59, 3) := by decide +kernel
theorem dX9_init_86 : decode cX9_init 86 = .ok (.aload_n 0, 1) := by decide +kernel
theorem dX9_init_87 : decode cX9_init 87 = .ok (.aload_n 1, 1) := by decide +kernel
theorem dX9_init_88 : decode cX9_init 88 = .ok (.putfield 62, 3) := by decide +kernel
theorem dX9_init_91 : decode cX9_init 91 = .ok (.iconst 0, 1) := by decide +kernel
theorem dX9_init_92 : decode cX9_init 92 = .ok (.istore_n 2, 1) := by decide +kernel
theorem dX9_init_93 : decode cX9_init 93 = .ok (.iload_n 2, 1) := by decide +kernel
theorem dX9_init_94 : decode cX9_init 94 = .ok (.bipush 16, 2) := by decide +kernel
theorem dX9_init_96 : decode cX9_init 96 = .ok (.if_icmp .ge 23, 3) := by decide +kernel
theorem dX9_init_99 : decode cX9_init 99 = .ok (.aload_n 0, 1) := by decide +kernel
theorem dX9_init_100 : decode cX9_init 100 = .ok (.getfield 20, 3) := by decide +kernel
theorem dX9_init_103 : decode cX9_init 103 = .ok (.iload_n 2, 1) := by decide +kernel
theorem dX9_init_104 : decode cX9_init 104 = .ok (.new 18, 3) := by decide +kernel
theorem dX9_init_107 : decode cX9_init 107 = .ok (.dup, 1) := by decide +kernel
theorem dX9_init_108 : decode cX9_init 108 = .ok (.iload_n 2, 1) := by decide +kernel
theorem dX9_init_109 : decode cX9_init 109 = .ok (.invokespecial 24, 3) := by decide +kernel
theorem dX9_init_112 : decode cX9_init 112 = .ok (.aastore, 1) := by decide +kernel
theorem dX9_init_113 : decode cX9_init 113 = .ok (.iinc 2 1, 3) := by decide +kernel
theorem dX9_init_116 : decode cX9_init 116 = .ok (.goto (-23), 3) := by decide +kernel
theorem dX9_init_119 : decode cX9_init 119 = .ok (.return_, 1) := by decide +kernel
theorem dX9_isNode_0 : decode cX9_isNode 0 = .ok (.iload_n 1, 1) := by decide +kernel
theorem dX9_isNode_1 : decode cX9_isNode 1 = .ok (.ifCond .lt 21, 3) := by decide +kernel
theorem dX9_isNode_4 : decode cX9_isNode 4 = .ok (.iload_n 1, 1) := by decide +kernel
theorem dX9_isNode_5 : decode cX9_isNode 5 = .ok (.aload_n 0, 1) := by decide +kernel
theorem dX9_isNode_6 : decode cX9_isNode 6 = .ok (.getfield 49, 3) := by decide +kernel
theorem dX9_isNode_9 : decode cX9_isNode 9 = .ok (.if_icmp .ge 13, 3) := by decide +kernel
theorem dX9_isNode_12 : decode cX9_isNode 12 = .ok (.iload_n 1, 1) := by decide +kernel
theorem dX9_isNode_13 : decode cX9_isNode 13 = .ok (.bipush 16, 2) := by decide +kernel
theorem dX9_isNode_15 : decode cX9_isNode 15 = .ok (.if_icmp .ge 7, 3) := by decide +kernel
theorem dX9_isNode_18 : decode cX9_isNode 18 = .ok (.iconst 1, 1) := by decide +kernel
theorem dX9_isNode_19 : decode cX9_isNode 19 = .ok (.goto 4, 3) := by decide +kernel
theorem dX9_isNode_22 : decode cX9_isNode 22 = .ok (.iconst 0, 1) := by decide +kernel
theorem dX9_isNode_23 : decode cX9_isNode 23 = .ok (.ireturn, 1) := by decide +kernel
theorem dX9_isTale_0 : decode cX9_isTale 0 = .ok (.iload_n 1, 1) := by decide +kernel
theorem dX9_isTale_1 : decode cX9_isTale 1 = .ok (.ifCond .lt 15, 3) := by decide +kernel
theorem dX9_isTale_4 : decode cX9_isTale 4 = .ok (.iload_n 1, 1) := by decide +kernel
theorem dX9_isTale_5 : decode cX9_isTale 5 = .ok (.aload_n 0, 1) := by decide +kernel
theorem dX9_isTale_6 : decode cX9_isTale 6 = .ok (.getfield 53, 3) := by decide +kernel
theorem dX9_isTale_9 : decode cX9_isTale 9 = .ok (.if_icmp .ge 7, 3) := by decide +kernel
theorem dX9_isTale_12 : decode cX9_isTale 12 = .ok (.iconst 1, 1) := by decide +kernel
theorem dX9_isTale_13 : decode cX9_isTale 13 = .ok (.goto 4, 3) := by decide +kernel
theorem dX9_isTale_16 : decode cX9_isTale 16 = .ok (.iconst 0, 1) := by decide +kernel
theorem dX9_isTale_17 : decode cX9_isTale 17 = .ok (.ireturn, 1) := by decide +kernel
theorem dX9_nodeAt_0 : decode cX9_nodeAt 0 = .ok (.aload_n 0, 1) := by decide +kernel
theorem dX9_nodeAt_1 : decode cX9_nodeAt 1 = .ok (.iload_n 1, 1) := by decide +kernel
theorem dX9_nodeAt_2 : decode cX9_nodeAt 2 = .ok (.invokevirtual 66, 3) := by decide +kernel
theorem dX9_nodeAt_5 : decode cX9_nodeAt 5 = .ok (.ifCond .eq 12, 3) := by decide +kernel
theorem dX9_nodeAt_8 : decode cX9_nodeAt 8 = .ok (.aload_n 0, 1) := by decide +kernel
theorem dX9_nodeAt_9 : decode cX9_nodeAt 9 = .ok (.getfield 20, 3) := by decide +kernel
theorem dX9_nodeAt_12 : decode cX9_nodeAt 12 = .ok (.iload_n 1, 1) := by decide +kernel
theorem dX9_nodeAt_13 : decode cX9_nodeAt 13 = .ok (.aaload, 1) := by decide +kernel
theorem dX9_nodeAt_14 : decode cX9_nodeAt 14 = .ok (.goto 7, 3) := by decide +kernel
theorem dX9_nodeAt_17 : decode cX9_nodeAt 17 = .ok (.aload_n 0, 1) := by decide +kernel
theorem dX9_nodeAt_18 : decode cX9_nodeAt 18 = .ok (.getfield 27, 3) := by decide +kernel
theorem dX9_nodeAt_21 : decode cX9_nodeAt 21 = .ok (.areturn, 1) := by decide +kernel
theorem dX9_openNode_0 : decode cX9_openNode 0 = .ok (.aload_n 0, 1) := by decide +kernel
theorem dX9_openNode_1 : decode cX9_openNode 1 = .ok (.getfield 49, 3) := by decide +kernel
theorem dX9_openNode_4 : decode cX9_openNode 4 = .ok (.bipush 16, 2) := by decide +kernel
theorem dX9_openNode_6 : decode cX9_openNode 6 = .ok (.if_icmp .lt 6, 3) := by decide +kernel
theorem dX9_openNode_9 : decode cX9_openNode 9 = .ok (.bipush (-4), 2) := by decide +kernel
theorem dX9_openNode_11 : decode cX9_openNode 11 = .ok (.ireturn, 1) := by decide +kernel
theorem dX9_openNode_12 : decode cX9_openNode 12 = .ok (.aload_n 0, 1) := by decide +kernel
theorem dX9_openNode_13 : decode cX9_openNode 13 = .ok (.getfield 20, 3) := by decide +kernel
theorem dX9_openNode_16 : decode cX9_openNode 16 = .ok (.aload_n 0, 1) := by decide +kernel
theorem dX9_openNode_17 : decode cX9_openNode 17 = .ok (.getfield 49, 3) := by decide +kernel
theorem dX9_openNode_20 : decode cX9_openNode 20 = .ok (.aaload, 1) := by decide +kernel
theorem dX9_openNode_21 : decode cX9_openNode 21 = .ok (.invokevirtual 70, 3) := by decide +kernel
theorem dX9_openNode_24 : decode cX9_openNode 24 = .ok (.aload_n 0, 1) := by decide +kernel
theorem dX9_openNode_25 : decode cX9_openNode 25 = .ok (.dup, 1) := by decide +kernel
theorem dX9_openNode_26 : decode cX9_openNode 26 = .ok (.getfield 49, 3) := by decide +kernel
theorem dX9_openNode_29 : decode cX9_openNode 29 = .ok (.iconst 1, 1) := by decide +kernel
theorem dX9_openNode_30 : decode cX9_openNode 30 = .ok (.iadd, 1) := by decide +kernel
theorem dX9_openNode_31 : decode cX9_openNode 31 = .ok (.putfield 49, 3) := by decide +kernel
theorem dX9_openNode_34 : decode cX9_openNode 34 = .ok (.aload_n 0, 1) := by decide +kernel
theorem dX9_openNode_35 : decode cX9_openNode 35 = .ok (.getfield 49, 3) := by decide +kernel
theorem dX9_openNode_38 : decode cX9_openNode 38 = .ok (.iconst 1, 1) := by decide +kernel
theorem dX9_openNode_39 : decode cX9_openNode 39 = .ok (.isub, 1) := by decide +kernel
theorem dX9_openNode_40 : decode cX9_openNode 40 = .ok (.ireturn, 1) := by decide +kernel
theorem dX9_draw_0 : decode cX9_draw 0 = .ok (.iload_n 1, 1) := by decide +kernel
theorem dX9_draw_1 : decode cX9_draw 1 = .ok (.ifCond .gt 6, 3) := by decide +kernel
theorem dX9_draw_4 : decode cX9_draw 4 = .ok (.bipush (-6), 2) := by decide +kernel
theorem dX9_draw_6 : decode cX9_draw 6 = .ok (.ireturn, 1) := by decide +kernel
theorem dX9_draw_7 : decode cX9_draw 7 = .ok (.iload_n 1, 1) := by decide +kernel
theorem dX9_draw_8 : decode cX9_draw 8 = .ok (.iconst 1, 1) := by decide +kernel
theorem dX9_draw_9 : decode cX9_draw 9 = .ok (.if_icmp .eq 13, 3) := by decide +kernel
theorem dX9_draw_12 : decode cX9_draw 12 = .ok (.aload_n 0, 1) := by decide +kernel
theorem dX9_draw_13 : decode cX9_draw 13 = .ok (.getfield 62, 3) := by decide +kernel
theorem dX9_draw_16 : decode cX9_draw 16 = .ok (.getfield 73, 3) := by decide +kernel
theorem dX9_draw_19 : decode cX9_draw 19 = .ok (.ifCond .ne 5, 3) := by decide +kernel
theorem dX9_draw_22 : decode cX9_draw 22 = .ok (.iconst 0, 1) := by decide +kernel
theorem dX9_draw_23 : decode cX9_draw 23 = .ok (.ireturn, 1) := by decide +kernel
theorem dX9_draw_24 : decode cX9_draw 24 = .ok (.aload_n 0, 1) := by decide +kernel
theorem dX9_draw_25 : decode cX9_draw 25 = .ok (.getfield 62, 3) := by decide +kernel
theorem dX9_draw_28 : decode cX9_draw 28 = .ok (.aload_n 0, 1) := by decide +kernel
theorem dX9_draw_29 : decode cX9_draw 29 = .ok (.getfield 59, 3) := by decide +kernel
theorem dX9_draw_32 : decode cX9_draw 32 = .ok (.invokevirtual 78, 3) := by decide +kernel
theorem dX9_draw_35 : decode cX9_draw 35 = .ok (.istore_n 2, 1) := by decide +kernel
theorem dX9_draw_36 : decode cX9_draw 36 = .ok (.aload_n 0, 1) := by decide +kernel
theorem dX9_draw_37 : decode cX9_draw 37 = .ok (.aload_n 0, 1) := by decide +kernel
theorem dX9_draw_38 : decode cX9_draw 38 = .ok (.getfield 62, 3) := by decide +kernel
theorem dX9_draw_41 : decode cX9_draw 41 = .ok (.aload_n 0, 1) := by decide +kernel
theorem dX9_draw_42 : decode cX9_draw 42 = .ok (.getfield 59, 3) := by decide +kernel
theorem dX9_draw_45 : decode cX9_draw 45 = .ok (.invokevirtual 82, 3) := by decide +kernel
theorem dX9_draw_48 : decode cX9_draw 48 = .ok (.putfield 59, 3) := by decide +kernel
theorem dX9_draw_51 : decode cX9_draw 51 = .ok (.iload_n 2, 1) := by decide +kernel
theorem dX9_draw_52 : decode cX9_draw 52 = .ok (.iload_n 1, 1) := by decide +kernel
theorem dX9_draw_53 : decode cX9_draw 53 = .ok (.irem, 1) := by decide +kernel
theorem dX9_draw_54 : decode cX9_draw 54 = .ok (.ireturn, 1) := by decide +kernel
theorem dX9_send_0 : decode cX9_send 0 = .ok (.aload_n 0, 1) := by decide +kernel
theorem dX9_send_1 : decode cX9_send 1 = .ok (.getfield 34, 3) := by decide +kernel
theorem dX9_send_4 : decode cX9_send 4 = .ok (.invokevirtual 85, 3) := by decide +kernel
theorem dX9_send_7 : decode cX9_send 7 = .ok (.astore 6, 2) := by decide +kernel
theorem dX9_send_9 : decode cX9_send 9 = .ok (.aload 6, 2) := by decide +kernel
theorem dX9_send_11 : decode cX9_send 11 = .ok (.ifnonnull 5, 3) := by decide +kernel
theorem dX9_send_14 : decode cX9_send 14 = .ok (.aconst_null, 1) := by decide +kernel
theorem dX9_send_15 : decode cX9_send 15 = .ok (.areturn, 1) := by decide +kernel
theorem dX9_send_16 : decode cX9_send 16 = .ok (.aload_n 0, 1) := by decide +kernel
theorem dX9_send_17 : decode cX9_send 17 = .ok (.iload_n 2, 1) := by decide +kernel
theorem dX9_send_18 : decode cX9_send 18 = .ok (.invokevirtual 89, 3) := by decide +kernel
theorem dX9_send_21 : decode cX9_send 21 = .ok (.getfield 93, 3) := by decide +kernel
theorem dX9_send_24 : decode cX9_send 24 = .ok (.ifCond .eq 18, 3) := by decide +kernel
theorem dX9_send_27 : decode cX9_send 27 = .ok (.aload 6, 2) := by decide +kernel
theorem dX9_send_29 : decode cX9_send 29 = .ok (.iload_n 1, 1) := by decide +kernel
theorem dX9_send_30 : decode cX9_send 30 = .ok (.iload_n 2, 1) := by decide +kernel
theorem dX9_send_31 : decode cX9_send 31 = .ok (.iload_n 3, 1) := by decide +kernel
theorem dX9_send_32 : decode cX9_send 32 = .ok (.iload 4, 2) := by decide +kernel
theorem dX9_send_34 : decode cX9_send 34 = .ok (.iload 5, 2) := by decide +kernel
theorem dX9_send_36 : decode cX9_send 36 = .ok (.invokevirtual 97, 3) := by decide +kernel
theorem dX9_send_39 : decode cX9_send 39 = .ok (.goto 14, 3) := by decide +kernel
theorem dX9_send_42 : decode cX9_send 42 = .ok (.aload 6, 2) := by decide +kernel
theorem dX9_send_44 : decode cX9_send 44 = .ok (.iload_n 2, 1) := by decide +kernel
theorem dX9_send_45 : decode cX9_send 45 = .ok (.iload_n 1, 1) := by decide +kernel
theorem dX9_send_46 : decode cX9_send 46 = .ok (.bipush 12, 2) := by decide +kernel
theorem dX9_send_48 : decode cX9_send 48 = .ok (.iconst 0, 1) := by decide +kernel
theorem dX9_send_49 : decode cX9_send 49 = .ok (.iconst 0, 1) := by decide +kernel
theorem dX9_send_50 : decode cX9_send 50 = .ok (.invokevirtual 97, 3) := by decide +kernel
theorem dX9_send_53 : decode cX9_send 53 = .ok (.aload 6, 2) := by decide +kernel
theorem dX9_send_55 : decode cX9_send 55 = .ok (.areturn, 1) := by decide +kernel
theorem dX9_sendList_0 : decode cX9_sendList 0 = .ok (.aload_n 0, 1) := by decide +kernel
theorem dX9_sendList_1 : decode cX9_sendList 1 = .ok (.iload_n 1, 1) := by decide +kernel
theorem dX9_sendList_2 : decode cX9_sendList 2 = .ok (.iload_n 2, 1) := by decide +kernel
theorem dX9_sendList_3 : decode cX9_sendList 3 = .ok (.iload_n 3, 1) := by decide +kernel
theorem dX9_sendList_4 : decode cX9_sendList 4 = .ok (.iload 4, 2) := by decide +kernel
theorem dX9_sendList_6 : decode cX9_sendList 6 = .ok (.iload 5, 2) := by decide +kernel
theorem dX9_sendList_8 : decode cX9_sendList 8 = .ok (.invokevirtual 101, 3) := by decide +kernel
theorem dX9_sendList_11 : decode cX9_sendList 11 = .ok (.astore 7, 2) := by decide +kernel
theorem dX9_sendList_13 : decode cX9_sendList 13 = .ok (.aload 7, 2) := by decide +kernel
theorem dX9_sendList_15 : decode cX9_sendList 15 = .ok (.ifnull 22, 3) := by decide +kernel
theorem dX9_sendList_18 : decode cX9_sendList 18 = .ok (.aload 7, 2) := by decide +kernel
theorem dX9_sendList_20 : decode cX9_sendList 20 = .ok (.getfield 105, 3) := by decide +kernel
theorem dX9_sendList_23 : decode cX9_sendList 23 = .ok (.iload_n 3, 1) := by decide +kernel
theorem dX9_sendList_24 : decode cX9_sendList 24 = .ok (.if_icmp .ne 13, 3) := by decide +kernel
theorem dX9_sendList_27 : decode cX9_sendList 27 = .ok (.aload 7, 2) := by decide +kernel
theorem dX9_sendList_29 : decode cX9_sendList 29 = .ok (.getfield 108, 3) := by decide +kernel
theorem dX9_sendList_32 : decode cX9_sendList 32 = .ok (.aload 6, 2) := by decide +kernel
theorem dX9_sendList_34 : decode cX9_sendList 34 = .ok (.invokevirtual 112, 3) := by decide +kernel
theorem dX9_sendList_37 : decode cX9_sendList 37 = .ok (.return_, 1) := by decide +kernel
theorem dX9_takeLetter_0 : decode cX9_takeLetter 0 = .ok (.aload_n 0, 1) := by decide +kernel
theorem dX9_takeLetter_1 : decode cX9_takeLetter 1 = .ok (.getfield 41, 3) := by decide +kernel
theorem dX9_takeLetter_4 : decode cX9_takeLetter 4 = .ok (.aload_n 0, 1) := by decide +kernel
theorem dX9_takeLetter_5 : decode cX9_takeLetter 5 = .ok (.getfield 34, 3) := by decide +kernel
theorem dX9_takeLetter_8 : decode cX9_takeLetter 8 = .ok (.iload_n 1, 1) := by decide +kernel
theorem dX9_takeLetter_9 : decode cX9_takeLetter 9 = .ok (.invokevirtual 118, 3) := by decide +kernel
theorem dX9_takeLetter_12 : decode cX9_takeLetter 12 = .ok (.invokevirtual 121, 3) := by decide +kernel
theorem dX9_takeLetter_15 : decode cX9_takeLetter 15 = .ok (.aload_n 0, 1) := by decide +kernel
theorem dX9_takeLetter_16 : decode cX9_takeLetter 16 = .ok (.getfield 34, 3) := by decide +kernel
theorem dX9_takeLetter_19 : decode cX9_takeLetter 19 = .ok (.iload_n 1, 1) := by decide +kernel
theorem dX9_takeLetter_20 : decode cX9_takeLetter 20 = .ok (.invokevirtual 124, 3) := by decide +kernel
theorem dX9_takeLetter_23 : decode cX9_takeLetter 23 = .ok (.aload_n 0, 1) := by decide +kernel
theorem dX9_takeLetter_24 : decode cX9_takeLetter 24 = .ok (.getfield 45, 3) := by decide +kernel
theorem dX9_takeLetter_27 : decode cX9_takeLetter 27 = .ok (.iconst 0, 1) := by decide +kernel
theorem dX9_takeLetter_28 : decode cX9_takeLetter 28 = .ok (.dup2, 1) := by decide +kernel
theorem dX9_takeLetter_29 : decode cX9_takeLetter 29 = .ok (.iaload, 1) := by decide +kernel
theorem dX9_takeLetter_30 : decode cX9_takeLetter 30 = .ok (.iconst 1, 1) := by decide +kernel
theorem dX9_takeLetter_31 : decode cX9_takeLetter 31 = .ok (.iadd, 1) := by decide +kernel
theorem dX9_takeLetter_32 : decode cX9_takeLetter 32 = .ok (.iastore, 1) := by decide +kernel
theorem dX9_takeLetter_33 : decode cX9_takeLetter 33 = .ok (.aload_n 0, 1) := by decide +kernel
theorem dX9_takeLetter_34 : decode cX9_takeLetter 34 = .ok (.getfield 41, 3) := by decide +kernel
theorem dX9_takeLetter_37 : decode cX9_takeLetter 37 = .ok (.getfield 105, 3) := by decide +kernel
theorem dX9_takeLetter_40 : decode cX9_takeLetter 40 = .ok (.iconst 1, 1) := by decide +kernel
theorem dX9_takeLetter_41 : decode cX9_takeLetter 41 = .ok (.if_icmp .lt 31, 3) := by decide +kernel
theorem dX9_takeLetter_44 : decode cX9_takeLetter 44 = .ok (.aload_n 0, 1) := by decide +kernel
theorem dX9_takeLetter_45 : decode cX9_takeLetter 45 = .ok (.getfield 41, 3) := by decide +kernel
theorem dX9_takeLetter_48 : decode cX9_takeLetter 48 = .ok (.getfield 105, 3) := by decide +kernel
theorem dX9_takeLetter_51 : decode cX9_takeLetter 51 = .ok (.bipush 12, 2) := by decide +kernel
theorem dX9_takeLetter_53 : decode cX9_takeLetter 53 = .ok (.if_icmp .gt 19, 3) := by decide +kernel
theorem dX9_takeLetter_56 : decode cX9_takeLetter 56 = .ok (.aload_n 0, 1) := by decide +kernel
theorem dX9_takeLetter_57 : decode cX9_takeLetter 57 = .ok (.getfield 45, 3) := by decide +kernel
theorem dX9_takeLetter_60 : decode cX9_takeLetter 60 = .ok (.aload_n 0, 1) := by decide +kernel
theorem dX9_takeLetter_61 : decode cX9_takeLetter 61 = .ok (.getfield 41, 3) := by decide +kernel
theorem dX9_takeLetter_64 : decode cX9_takeLetter 64 = .ok (.getfield 105, 3) := by decide +kernel
theorem dX9_takeLetter_67 : decode cX9_takeLetter 67 = .ok (.dup2, 1) := by decide +kernel
theorem dX9_takeLetter_68 : decode cX9_takeLetter 68 = .ok (.iaload, 1) := by decide +kernel
theorem dX9_takeLetter_69 : decode cX9_takeLetter 69 = .ok (.iconst 1, 1) := by decide +kernel
theorem dX9_takeLetter_70 : decode cX9_takeLetter 70 = .ok (.iadd, 1) := by decide +kernel
theorem dX9_takeLetter_71 : decode cX9_takeLetter 71 = .ok (.iastore, 1) := by decide +kernel
theorem dX9_takeLetter_72 : decode cX9_takeLetter 72 = .ok (.aload_n 0, 1) := by decide +kernel
theorem dX9_takeLetter_73 : decode cX9_takeLetter 73 = .ok (.aload_n 0, 1) := by decide +kernel
theorem dX9_takeLetter_74 : decode cX9_takeLetter 74 = .ok (.getfield 41, 3) := by decide +kernel
theorem dX9_takeLetter_77 : decode cX9_takeLetter 77 = .ok (.getfield 127, 3) := by decide +kernel
theorem dX9_takeLetter_80 : decode cX9_takeLetter 80 = .ok (.invokevirtual 89, 3) := by decide +kernel
theorem dX9_takeLetter_83 : decode cX9_takeLetter 83 = .ok (.dup, 1) := by decide +kernel
theorem dX9_takeLetter_84 : decode cX9_takeLetter 84 = .ok (.getfield 130, 3) := by decide +kernel
theorem dX9_takeLetter_87 : decode cX9_takeLetter 87 = .ok (.iconst 1, 1) := by decide +kernel
theorem dX9_takeLetter_88 : decode cX9_takeLetter 88 = .ok (.iadd, 1) := by decide +kernel
theorem dX9_takeLetter_89 : decode cX9_takeLetter 89 = .ok (.putfield 130, 3) := by decide +kernel
theorem dX9_takeLetter_92 : decode cX9_takeLetter 92 = .ok (.aload_n 0, 1) := by decide +kernel
theorem dX9_takeLetter_93 : decode cX9_takeLetter 93 = .ok (.getfield 41, 3) := by decide +kernel
theorem dX9_takeLetter_96 : decode cX9_takeLetter 96 = .ok (.areturn, 1) := by decide +kernel
theorem dX9_halt_0 : decode cX9_halt 0 = .ok (.aload_n 1, 1) := by decide +kernel
theorem dX9_halt_1 : decode cX9_halt 1 = .ok (.iconst 0, 1) := by decide +kernel
theorem dX9_halt_2 : decode cX9_halt 2 = .ok (.putfield 93, 3) := by decide +kernel
theorem dX9_halt_5 : decode cX9_halt 5 = .ok (.aload_n 0, 1) := by decide +kernel
theorem dX9_halt_6 : decode cX9_halt 6 = .ok (.getfield 34, 3) := by decide +kernel
theorem dX9_halt_9 : decode cX9_halt 9 = .ok (.aload_n 1, 1) := by decide +kernel
theorem dX9_halt_10 : decode cX9_halt 10 = .ok (.getfield 133, 3) := by decide +kernel
theorem dX9_halt_13 : decode cX9_halt 13 = .ok (.invokevirtual 136, 3) := by decide +kernel
theorem dX9_halt_16 : decode cX9_halt 16 = .ok (.istore_n 2, 1) := by decide +kernel
theorem dX9_halt_17 : decode cX9_halt 17 = .ok (.iconst 0, 1) := by decide +kernel
theorem dX9_halt_18 : decode cX9_halt 18 = .ok (.istore_n 3, 1) := by decide +kernel
theorem dX9_halt_19 : decode cX9_halt 19 = .ok (.iload_n 3, 1) := by decide +kernel
theorem dX9_halt_20 : decode cX9_halt 20 = .ok (.aload_n 0, 1) := by decide +kernel
theorem dX9_halt_21 : decode cX9_halt 21 = .ok (.getfield 49, 3) := by decide +kernel
theorem dX9_halt_24 : decode cX9_halt 24 = .ok (.if_icmp .ge 50, 3) := by decide +kernel
theorem dX9_halt_27 : decode cX9_halt 27 = .ok (.aload_n 0, 1) := by decide +kernel
theorem dX9_halt_28 : decode cX9_halt 28 = .ok (.iload_n 3, 1) := by decide +kernel
theorem dX9_halt_29 : decode cX9_halt 29 = .ok (.invokevirtual 89, 3) := by decide +kernel
theorem dX9_halt_32 : decode cX9_halt 32 = .ok (.getfield 93, 3) := by decide +kernel
theorem dX9_halt_35 : decode cX9_halt 35 = .ok (.ifCond .eq 33, 3) := by decide +kernel
theorem dX9_halt_38 : decode cX9_halt 38 = .ok (.aload_n 0, 1) := by decide +kernel
theorem dX9_halt_39 : decode cX9_halt 39 = .ok (.aload_n 0, 1) := by decide +kernel
theorem dX9_halt_40 : decode cX9_halt 40 = .ok (.iload_n 3, 1) := by decide +kernel
theorem dX9_halt_41 : decode cX9_halt 41 = .ok (.invokevirtual 89, 3) := by decide +kernel
theorem dX9_halt_44 : decode cX9_halt 44 = .ok (.aload_n 1, 1) := by decide +kernel
theorem dX9_halt_45 : decode cX9_halt 45 = .ok (.getfield 133, 3) := by decide +kernel
theorem dX9_halt_48 : decode cX9_halt 48 = .ok (.invokevirtual 139, 3) := by decide +kernel
theorem dX9_halt_51 : decode cX9_halt 51 = .ok (.ifCond .eq 17, 3) := by decide +kernel
theorem dX9_halt_54 : decode cX9_halt 54 = .ok (.aload_n 0, 1) := by decide +kernel
theorem dX9_halt_55 : decode cX9_halt 55 = .ok (.aload_n 1, 1) := by decide +kernel
theorem dX9_halt_56 : decode cX9_halt 56 = .ok (.getfield 133, 3) := by decide +kernel
theorem dX9_halt_59 : decode cX9_halt 59 = .ok (.iload_n 3, 1) := by decide +kernel
theorem dX9_halt_60 : decode cX9_halt 60 = .ok (.bipush 12, 2) := by decide +kernel
theorem dX9_halt_62 : decode cX9_halt 62 = .ok (.iconst 0, 1) := by decide +kernel
theorem dX9_halt_63 : decode cX9_halt 63 = .ok (.iconst 0, 1) := by decide +kernel
theorem dX9_halt_64 : decode cX9_halt 64 = .ok (.invokevirtual 101, 3) := by decide +kernel
theorem dX9_halt_67 : decode cX9_halt 67 = .ok (.pop, 1) := by decide +kernel
theorem dX9_halt_68 : decode cX9_halt 68 = .ok (.iinc 3 1, 3) := by decide +kernel
theorem dX9_halt_71 : decode cX9_halt 71 = .ok (.goto (-52), 3) := by decide +kernel
theorem dX9_halt_74 : decode cX9_halt 74 = .ok (.iload_n 2, 1) := by decide +kernel
theorem dX9_halt_75 : decode cX9_halt 75 = .ok (.ireturn, 1) := by decide +kernel
theorem dX9_mustLearnOfStop_0 : decode cX9_mustLearnOfStop 0 = .ok (.aload_n 1, 1) := by decide +kernel
theorem dX9_mustLearnOfStop_1 : decode cX9_mustLearnOfStop 1 = .ok (.getfield 143, 3) := by decide +kernel
theorem dX9_mustLearnOfStop_4 : decode cX9_mustLearnOfStop 4 = .ok (.iload_n 2, 1) := by decide +kernel
theorem dX9_mustLearnOfStop_5 : decode cX9_mustLearnOfStop 5 = .ok (.invokevirtual 146, 3) := by decide +kernel
theorem dX9_mustLearnOfStop_8 : decode cX9_mustLearnOfStop 8 = .ok (.ifCond .ne 11, 3) := by decide +kernel
theorem dX9_mustLearnOfStop_11 : decode cX9_mustLearnOfStop 11 = .ok (.aload_n 1, 1) := by decide +kernel
theorem dX9_mustLearnOfStop_12 : decode cX9_mustLearnOfStop 12 = .ok (.getfield 149, 3) := by decide +kernel
theorem dX9_mustLearnOfStop_15 : decode cX9_mustLearnOfStop 15 = .ok (.iload_n 2, 1) := by decide +kernel
theorem dX9_mustLearnOfStop_16 : decode cX9_mustLearnOfStop 16 = .ok (.if_icmp .ne 5, 3) := by decide +kernel
theorem dX9_mustLearnOfStop_19 : decode cX9_mustLearnOfStop 19 = .ok (.iconst 1, 1) := by decide +kernel
theorem dX9_mustLearnOfStop_20 : decode cX9_mustLearnOfStop 20 = .ok (.ireturn, 1) := by decide +kernel
theorem dX9_mustLearnOfStop_21 : decode cX9_mustLearnOfStop 21 = .ok (.aload_n 0, 1) := by decide +kernel
theorem dX9_mustLearnOfStop_22 : decode cX9_mustLearnOfStop 22 = .ok (.getfield 34, 3) := by decide +kernel
theorem dX9_mustLearnOfStop_25 : decode cX9_mustLearnOfStop 25 = .ok (.aload_n 0, 1) := by decide +kernel
theorem dX9_mustLearnOfStop_26 : decode cX9_mustLearnOfStop 26 = .ok (.getfield 34, 3) := by decide +kernel
theorem dX9_mustLearnOfStop_29 : decode cX9_mustLearnOfStop 29 = .ok (.getfield 152, 3) := by decide +kernel
theorem dX9_mustLearnOfStop_32 : decode cX9_mustLearnOfStop 32 = .ok (.iload_n 2, 1) := by decide +kernel
theorem dX9_mustLearnOfStop_33 : decode cX9_mustLearnOfStop 33 = .ok (.aload_n 1, 1) := by decide +kernel
theorem dX9_mustLearnOfStop_34 : decode cX9_mustLearnOfStop 34 = .ok (.getfield 133, 3) := by decide +kernel
theorem dX9_mustLearnOfStop_37 : decode cX9_mustLearnOfStop 37 = .ok (.invokevirtual 153, 3) := by decide +kernel
theorem dX9_mustLearnOfStop_40 : decode cX9_mustLearnOfStop 40 = .ok (.ireturn, 1) := by decide +kernel
theorem dX9_liveCount_0 : decode cX9_liveCount 0 = .ok (.iconst 0, 1) := by decide +kernel
theorem dX9_liveCount_1 : decode cX9_liveCount 1 = .ok (.istore_n 1, 1) := by decide +kernel
theorem dX9_liveCount_2 : decode cX9_liveCount 2 = .ok (.iconst 0, 1) := by decide +kernel
theorem dX9_liveCount_3 : decode cX9_liveCount 3 = .ok (.istore_n 2, 1) := by decide +kernel
theorem dX9_liveCount_4 : decode cX9_liveCount 4 = .ok (.iload_n 2, 1) := by decide +kernel
theorem dX9_liveCount_5 : decode cX9_liveCount 5 = .ok (.aload_n 0, 1) := by decide +kernel
theorem dX9_liveCount_6 : decode cX9_liveCount 6 = .ok (.getfield 49, 3) := by decide +kernel
theorem dX9_liveCount_9 : decode cX9_liveCount 9 = .ok (.if_icmp .ge 28, 3) := by decide +kernel
theorem dX9_liveCount_12 : decode cX9_liveCount 12 = .ok (.iload_n 1, 1) := by decide +kernel
theorem dX9_liveCount_13 : decode cX9_liveCount 13 = .ok (.aload_n 0, 1) := by decide +kernel
theorem dX9_liveCount_14 : decode cX9_liveCount 14 = .ok (.iload_n 2, 1) := by decide +kernel
theorem dX9_liveCount_15 : decode cX9_liveCount 15 = .ok (.invokevirtual 89, 3) := by decide +kernel
theorem dX9_liveCount_18 : decode cX9_liveCount 18 = .ok (.getfield 93, 3) := by decide +kernel
theorem dX9_liveCount_21 : decode cX9_liveCount 21 = .ok (.ifCond .eq 7, 3) := by decide +kernel
theorem dX9_liveCount_24 : decode cX9_liveCount 24 = .ok (.iconst 1, 1) := by decide +kernel
theorem dX9_liveCount_25 : decode cX9_liveCount 25 = .ok (.goto 4, 3) := by decide +kernel
theorem dX9_liveCount_28 : decode cX9_liveCount 28 = .ok (.iconst 0, 1) := by decide +kernel
theorem dX9_liveCount_29 : decode cX9_liveCount 29 = .ok (.iadd, 1) := by decide +kernel
theorem dX9_liveCount_30 : decode cX9_liveCount 30 = .ok (.istore_n 1, 1) := by decide +kernel
theorem dX9_liveCount_31 : decode cX9_liveCount 31 = .ok (.iinc 2 1, 3) := by decide +kernel
theorem dX9_liveCount_34 : decode cX9_liveCount 34 = .ok (.goto (-30), 3) := by decide +kernel
theorem dX9_liveCount_37 : decode cX9_liveCount 37 = .ok (.iload_n 1, 1) := by decide +kernel
theorem dX9_liveCount_38 : decode cX9_liveCount 38 = .ok (.ireturn, 1) := by decide +kernel
theorem dX9_hearersOf_0 : decode cX9_hearersOf 0 = .ok (.iconst 0, 1) := by decide +kernel
theorem dX9_hearersOf_1 : decode cX9_hearersOf 1 = .ok (.istore_n 2, 1) := by decide +kernel
theorem dX9_hearersOf_2 : decode cX9_hearersOf 2 = .ok (.iconst 0, 1) := by decide +kernel
theorem dX9_hearersOf_3 : decode cX9_hearersOf 3 = .ok (.istore_n 3, 1) := by decide +kernel
theorem dX9_hearersOf_4 : decode cX9_hearersOf 4 = .ok (.iload_n 3, 1) := by decide +kernel
theorem dX9_hearersOf_5 : decode cX9_hearersOf 5 = .ok (.aload_n 0, 1) := by decide +kernel
theorem dX9_hearersOf_6 : decode cX9_hearersOf 6 = .ok (.getfield 49, 3) := by decide +kernel
theorem dX9_hearersOf_9 : decode cX9_hearersOf 9 = .ok (.if_icmp .ge 40, 3) := by decide +kernel
theorem dX9_hearersOf_12 : decode cX9_hearersOf 12 = .ok (.iload_n 2, 1) := by decide +kernel
theorem dX9_hearersOf_13 : decode cX9_hearersOf 13 = .ok (.aload_n 0, 1) := by decide +kernel
theorem dX9_hearersOf_14 : decode cX9_hearersOf 14 = .ok (.iload_n 3, 1) := by decide +kernel
theorem dX9_hearersOf_15 : decode cX9_hearersOf 15 = .ok (.invokevirtual 89, 3) := by decide +kernel
theorem dX9_hearersOf_18 : decode cX9_hearersOf 18 = .ok (.getfield 93, 3) := by decide +kernel
theorem dX9_hearersOf_21 : decode cX9_hearersOf 21 = .ok (.ifCond .eq 19, 3) := by decide +kernel
theorem dX9_hearersOf_24 : decode cX9_hearersOf 24 = .ok (.aload_n 0, 1) := by decide +kernel
theorem dX9_hearersOf_25 : decode cX9_hearersOf 25 = .ok (.iload_n 3, 1) := by decide +kernel
theorem dX9_hearersOf_26 : decode cX9_hearersOf 26 = .ok (.invokevirtual 89, 3) := by decide +kernel
theorem dX9_hearersOf_29 : decode cX9_hearersOf 29 = .ok (.iload_n 1, 1) := by decide +kernel
theorem dX9_hearersOf_30 : decode cX9_hearersOf 30 = .ok (.invokevirtual 157, 3) := by decide +kernel
theorem dX9_hearersOf_33 : decode cX9_hearersOf 33 = .ok (.ifCond .eq 7, 3) := by decide +kernel
theorem dX9_hearersOf_36 : decode cX9_hearersOf 36 = .ok (.iconst 1, 1) := by decide +kernel
theorem dX9_hearersOf_37 : decode cX9_hearersOf 37 = .ok (.goto 4, 3) := by decide +kernel
theorem dX9_hearersOf_40 : decode cX9_hearersOf 40 = .ok (.iconst 0, 1) := by decide +kernel
theorem dX9_hearersOf_41 : decode cX9_hearersOf 41 = .ok (.iadd, 1) := by decide +kernel
theorem dX9_hearersOf_42 : decode cX9_hearersOf 42 = .ok (.istore_n 2, 1) := by decide +kernel
theorem dX9_hearersOf_43 : decode cX9_hearersOf 43 = .ok (.iinc 3 1, 3) := by decide +kernel
theorem dX9_hearersOf_46 : decode cX9_hearersOf 46 = .ok (.goto (-42), 3) := by decide +kernel
theorem dX9_hearersOf_49 : decode cX9_hearersOf 49 = .ok (.iload_n 2, 1) := by decide +kernel
theorem dX9_hearersOf_50 : decode cX9_hearersOf 50 = .ok (.ireturn, 1) := by decide +kernel
theorem dX9_isEven_0 : decode cX9_isEven 0 = .ok (.iconst 0, 1) := by decide +kernel
theorem dX9_isEven_1 : decode cX9_isEven 1 = .ok (.istore_n 1, 1) := by decide +kernel
theorem dX9_isEven_2 : decode cX9_isEven 2 = .ok (.iload_n 1, 1) := by decide +kernel
theorem dX9_isEven_3 : decode cX9_isEven 3 = .ok (.aload_n 0, 1) := by decide +kernel
theorem dX9_isEven_4 : decode cX9_isEven 4 = .ok (.getfield 49, 3) := by decide +kernel
theorem dX9_isEven_7 : decode cX9_isEven 7 = .ok (.if_icmp .ge 34, 3) := by decide +kernel
theorem dX9_isEven_10 : decode cX9_isEven 10 = .ok (.aload_n 0, 1) := by decide +kernel
theorem dX9_isEven_11 : decode cX9_isEven 11 = .ok (.iload_n 1, 1) := by decide +kernel
theorem dX9_isEven_12 : decode cX9_isEven 12 = .ok (.invokevirtual 89, 3) := by decide +kernel
theorem dX9_isEven_15 : decode cX9_isEven 15 = .ok (.getfield 93, 3) := by decide +kernel
theorem dX9_isEven_18 : decode cX9_isEven 18 = .ok (.ifCond .eq 17, 3) := by decide +kernel
theorem dX9_isEven_21 : decode cX9_isEven 21 = .ok (.aload_n 0, 1) := by decide +kernel
theorem dX9_isEven_22 : decode cX9_isEven 22 = .ok (.aload_n 0, 1) := by decide +kernel
theorem dX9_isEven_23 : decode cX9_isEven 23 = .ok (.iload_n 1, 1) := by decide +kernel
theorem dX9_isEven_24 : decode cX9_isEven 24 = .ok (.invokevirtual 89, 3) := by decide +kernel
theorem dX9_isEven_27 : decode cX9_isEven 27 = .ok (.invokevirtual 160, 3) := by decide +kernel
theorem dX9_isEven_30 : decode cX9_isEven 30 = .ok (.ifCond .eq 5, 3) := by decide +kernel
theorem dX9_isEven_33 : decode cX9_isEven 33 = .ok (.iconst 0, 1) := by decide +kernel
theorem dX9_isEven_34 : decode cX9_isEven 34 = .ok (.ireturn, 1) := by decide +kernel
theorem dX9_isEven_35 : decode cX9_isEven 35 = .ok (.iinc 1 1, 3) := by decide +kernel
theorem dX9_isEven_38 : decode cX9_isEven 38 = .ok (.goto (-36), 3) := by decide +kernel
theorem dX9_isEven_41 : decode cX9_isEven 41 = .ok (.iconst 1, 1) := by decide +kernel
theorem dX9_isEven_42 : decode cX9_isEven 42 = .ok (.ireturn, 1) := by decide +kernel
theorem dX9_hasOneSidedLink_0 : decode cX9_hasOneSidedLink 0 = .ok (.iconst 0, 1) := by decide +kernel
theorem dX9_hasOneSidedLink_1 : decode cX9_hasOneSidedLink 1 = .ok (.istore_n 2, 1) := by decide +kernel
theorem dX9_hasOneSidedLink_2 : decode cX9_hasOneSidedLink 2 = .ok (.iload_n 2, 1) := by decide +kernel
theorem dX9_hasOneSidedLink_3 : decode cX9_hasOneSidedLink 3 = .ok (.aload_n 1, 1) := by decide +kernel
theorem dX9_hasOneSidedLink_4 : decode cX9_hasOneSidedLink 4 = .ok (.getfield 143, 3) := by decide +kernel
theorem dX9_hasOneSidedLink_7 : decode cX9_hasOneSidedLink 7 = .ok (.getfield 164, 3) := by decide +kernel
theorem dX9_hasOneSidedLink_10 : decode cX9_hasOneSidedLink 10 = .ok (.if_icmp .ge 45, 3) := by decide +kernel
theorem dX9_hasOneSidedLink_13 : decode cX9_hasOneSidedLink 13 = .ok (.aload_n 0, 1) := by decide +kernel
theorem dX9_hasOneSidedLink_14 : decode cX9_hasOneSidedLink 14 = .ok (.aload_n 1, 1) := by decide +kernel
theorem dX9_hasOneSidedLink_15 : decode cX9_hasOneSidedLink 15 = .ok (.getfield 143, 3) := by decide +kernel
theorem dX9_hasOneSidedLink_18 : decode cX9_hasOneSidedLink 18 = .ok (.iload_n 2, 1) := by decide +kernel
theorem dX9_hasOneSidedLink_19 : decode cX9_hasOneSidedLink 19 = .ok (.invokevirtual 165, 3) := by decide +kernel
theorem dX9_hasOneSidedLink_22 : decode cX9_hasOneSidedLink 22 = .ok (.invokevirtual 89, 3) := by decide +kernel
theorem dX9_hasOneSidedLink_25 : decode cX9_hasOneSidedLink 25 = .ok (.astore_n 3, 1) := by decide +kernel
theorem dX9_hasOneSidedLink_26 : decode cX9_hasOneSidedLink 26 = .ok (.aload_n 3, 1) := by decide +kernel
theorem dX9_hasOneSidedLink_27 : decode cX9_hasOneSidedLink 27 = .ok (.getfield 93, 3) := by decide +kernel
theorem dX9_hasOneSidedLink_30 : decode cX9_hasOneSidedLink 30 = .ok (.ifCond .eq 19, 3) := by decide +kernel
theorem dX9_hasOneSidedLink_33 : decode cX9_hasOneSidedLink 33 = .ok (.aload_n 3, 1) := by decide +kernel
theorem dX9_hasOneSidedLink_34 : decode cX9_hasOneSidedLink 34 = .ok (.getfield 143, 3) := by decide +kernel
theorem dX9_hasOneSidedLink_37 : decode cX9_hasOneSidedLink 37 = .ok (.aload_n 1, 1) := by decide +kernel
theorem dX9_hasOneSidedLink_38 : decode cX9_hasOneSidedLink 38 = .ok (.getfield 133, 3) := by decide +kernel
theorem dX9_hasOneSidedLink_41 : decode cX9_hasOneSidedLink 41 = .ok (.invokevirtual 146, 3) := by decide +kernel
theorem dX9_hasOneSidedLink_44 : decode cX9_hasOneSidedLink 44 = .ok (.ifCond .ne 5, 3) := by decide +kernel
theorem dX9_hasOneSidedLink_47 : decode cX9_hasOneSidedLink 47 = .ok (.iconst 1, 1) := by decide +kernel
theorem dX9_hasOneSidedLink_48 : decode cX9_hasOneSidedLink 48 = .ok (.ireturn, 1) := by decide +kernel
theorem dX9_hasOneSidedLink_49 : decode cX9_hasOneSidedLink 49 = .ok (.iinc 2 1, 3) := by decide +kernel
theorem dX9_hasOneSidedLink_52 : decode cX9_hasOneSidedLink 52 = .ok (.goto (-50), 3) := by decide +kernel
theorem dX9_hasOneSidedLink_55 : decode cX9_hasOneSidedLink 55 = .ok (.iconst 0, 1) := by decide +kernel
theorem dX9_hasOneSidedLink_56 : decode cX9_hasOneSidedLink 56 = .ok (.ireturn, 1) := by decide +kernel
theorem dX9_reachFrom_0 : decode cX9_reachFrom 0 = .ok (.iconst 1, 1) := by decide +kernel
theorem dX9_reachFrom_1 : decode cX9_reachFrom 1 = .ok (.iload_n 1, 1) := by decide +kernel
theorem dX9_reachFrom_2 : decode cX9_reachFrom 2 = .ok (.ishl, 1) := by decide +kernel
theorem dX9_reachFrom_3 : decode cX9_reachFrom 3 = .ok (.istore_n 2, 1) := by decide +kernel
theorem dX9_reachFrom_4 : decode cX9_reachFrom 4 = .ok (.iconst 0, 1) := by decide +kernel
theorem dX9_reachFrom_5 : decode cX9_reachFrom 5 = .ok (.istore_n 3, 1) := by decide +kernel
theorem dX9_reachFrom_6 : decode cX9_reachFrom 6 = .ok (.iload_n 3, 1) := by decide +kernel
theorem dX9_reachFrom_7 : decode cX9_reachFrom 7 = .ok (.bipush 16, 2) := by decide +kernel
theorem dX9_reachFrom_9 : decode cX9_reachFrom 9 = .ok (.if_icmp .ge 49, 3) := by decide +kernel
theorem dX9_reachFrom_12 : decode cX9_reachFrom 12 = .ok (.iconst 0, 1) := by decide +kernel
theorem dX9_reachFrom_13 : decode cX9_reachFrom 13 = .ok (.istore 4, 2) := by decide +kernel
theorem dX9_reachFrom_15 : decode cX9_reachFrom 15 = .ok (.iload 4, 2) := by decide +kernel
theorem dX9_reachFrom_17 : decode cX9_reachFrom 17 = .ok (.aload_n 0, 1) := by decide +kernel
theorem dX9_reachFrom_18 : decode cX9_reachFrom 18 = .ok (.getfield 49, 3) := by decide +kernel
theorem dX9_reachFrom_21 : decode cX9_reachFrom 21 = .ok (.if_icmp .ge 31, 3) := by decide +kernel
theorem dX9_reachFrom_24 : decode cX9_reachFrom 24 = .ok (.iload_n 2, 1) := by decide +kernel
theorem dX9_reachFrom_25 : decode cX9_reachFrom 25 = .ok (.iconst 1, 1) := by decide +kernel
theorem dX9_reachFrom_26 : decode cX9_reachFrom 26 = .ok (.iload 4, 2) := by decide +kernel
theorem dX9_reachFrom_28 : decode cX9_reachFrom 28 = .ok (.ishl, 1) := by decide +kernel
theorem dX9_reachFrom_29 : decode cX9_reachFrom 29 = .ok (.iand, 1) := by decide +kernel
theorem dX9_reachFrom_30 : decode cX9_reachFrom 30 = .ok (.ifCond .eq 16, 3) := by decide +kernel
theorem dX9_reachFrom_33 : decode cX9_reachFrom 33 = .ok (.iload_n 2, 1) := by decide +kernel
theorem dX9_reachFrom_34 : decode cX9_reachFrom 34 = .ok (.aload_n 0, 1) := by decide +kernel
theorem dX9_reachFrom_35 : decode cX9_reachFrom 35 = .ok (.aload_n 0, 1) := by decide +kernel
theorem dX9_reachFrom_36 : decode cX9_reachFrom 36 = .ok (.iload 4, 2) := by decide +kernel
theorem dX9_reachFrom_38 : decode cX9_reachFrom 38 = .ok (.invokevirtual 89, 3) := by decide +kernel
theorem dX9_reachFrom_41 : decode cX9_reachFrom 41 = .ok (.invokevirtual 166, 3) := by decide +kernel
theorem dX9_reachFrom_44 : decode cX9_reachFrom 44 = .ok (.ior, 1) := by decide +kernel
theorem dX9_reachFrom_45 : decode cX9_reachFrom 45 = .ok (.istore_n 2, 1) := by decide +kernel
theorem dX9_reachFrom_46 : decode cX9_reachFrom 46 = .ok (.iinc 4 1, 3) := by decide +kernel
theorem dX9_reachFrom_49 : decode cX9_reachFrom 49 = .ok (.goto (-34), 3) := by decide +kernel
theorem dX9_reachFrom_52 : decode cX9_reachFrom 52 = .ok (.iinc 3 1, 3) := by decide +kernel
theorem dX9_reachFrom_55 : decode cX9_reachFrom 55 = .ok (.goto (-49), 3) := by decide +kernel
theorem dX9_reachFrom_58 : decode cX9_reachFrom 58 = .ok (.iload_n 2, 1) := by decide +kernel
theorem dX9_reachFrom_59 : decode cX9_reachFrom 59 = .ok (.invokestatic 170, 3) := by decide +kernel
theorem dX9_reachFrom_62 : decode cX9_reachFrom 62 = .ok (.ireturn, 1) := by decide +kernel
theorem dX9_liveLinksOf_0 : decode cX9_liveLinksOf 0 = .ok (.iconst 0, 1) := by decide +kernel
theorem dX9_liveLinksOf_1 : decode cX9_liveLinksOf 1 = .ok (.istore_n 2, 1) := by decide +kernel
theorem dX9_liveLinksOf_2 : decode cX9_liveLinksOf 2 = .ok (.iconst 0, 1) := by decide +kernel
theorem dX9_liveLinksOf_3 : decode cX9_liveLinksOf 3 = .ok (.istore_n 3, 1) := by decide +kernel
theorem dX9_liveLinksOf_4 : decode cX9_liveLinksOf 4 = .ok (.iload_n 3, 1) := by decide +kernel
theorem dX9_liveLinksOf_5 : decode cX9_liveLinksOf 5 = .ok (.aload_n 1, 1) := by decide +kernel
theorem dX9_liveLinksOf_6 : decode cX9_liveLinksOf 6 = .ok (.getfield 143, 3) := by decide +kernel
theorem dX9_liveLinksOf_9 : decode cX9_liveLinksOf 9 = .ok (.getfield 164, 3) := by decide +kernel
theorem dX9_liveLinksOf_12 : decode cX9_liveLinksOf 12 = .ok (.if_icmp .ge 42, 3) := by decide +kernel
theorem dX9_liveLinksOf_15 : decode cX9_liveLinksOf 15 = .ok (.aload_n 1, 1) := by decide +kernel
theorem dX9_liveLinksOf_16 : decode cX9_liveLinksOf 16 = .ok (.getfield 143, 3) := by decide +kernel
theorem dX9_liveLinksOf_19 : decode cX9_liveLinksOf 19 = .ok (.iload_n 3, 1) := by decide +kernel
theorem dX9_liveLinksOf_20 : decode cX9_liveLinksOf 20 = .ok (.invokevirtual 165, 3) := by decide +kernel
theorem dX9_liveLinksOf_23 : decode cX9_liveLinksOf 23 = .ok (.istore 4, 2) := by decide +kernel
theorem dX9_liveLinksOf_25 : decode cX9_liveLinksOf 25 = .ok (.iload_n 2, 1) := by decide +kernel
theorem dX9_liveLinksOf_26 : decode cX9_liveLinksOf 26 = .ok (.aload_n 0, 1) := by decide +kernel
theorem dX9_liveLinksOf_27 : decode cX9_liveLinksOf 27 = .ok (.iload 4, 2) := by decide +kernel
theorem dX9_liveLinksOf_29 : decode cX9_liveLinksOf 29 = .ok (.invokevirtual 89, 3) := by decide +kernel
theorem dX9_liveLinksOf_32 : decode cX9_liveLinksOf 32 = .ok (.getfield 93, 3) := by decide +kernel
theorem dX9_liveLinksOf_35 : decode cX9_liveLinksOf 35 = .ok (.ifCond .eq 10, 3) := by decide +kernel
theorem dX9_liveLinksOf_38 : decode cX9_liveLinksOf 38 = .ok (.iconst 1, 1) := by decide +kernel
theorem dX9_liveLinksOf_39 : decode cX9_liveLinksOf 39 = .ok (.iload 4, 2) := by decide +kernel
theorem dX9_liveLinksOf_41 : decode cX9_liveLinksOf 41 = .ok (.ishl, 1) := by decide +kernel
theorem dX9_liveLinksOf_42 : decode cX9_liveLinksOf 42 = .ok (.goto 4, 3) := by decide +kernel
theorem dX9_liveLinksOf_45 : decode cX9_liveLinksOf 45 = .ok (.iconst 0, 1) := by decide +kernel
theorem dX9_liveLinksOf_46 : decode cX9_liveLinksOf 46 = .ok (.ior, 1) := by decide +kernel
theorem dX9_liveLinksOf_47 : decode cX9_liveLinksOf 47 = .ok (.istore_n 2, 1) := by decide +kernel
theorem dX9_liveLinksOf_48 : decode cX9_liveLinksOf 48 = .ok (.iinc 3 1, 3) := by decide +kernel
theorem dX9_liveLinksOf_51 : decode cX9_liveLinksOf 51 = .ok (.goto (-47), 3) := by decide +kernel
theorem dX9_liveLinksOf_54 : decode cX9_liveLinksOf 54 = .ok (.iload_n 2, 1) := by decide +kernel
theorem dX9_liveLinksOf_55 : decode cX9_liveLinksOf 55 = .ok (.ireturn, 1) := by decide +kernel
theorem dX9_firstOtherNode_0 : decode cX9_firstOtherNode 0 = .ok (.iconst 0, 1) := by decide +kernel
theorem dX9_firstOtherNode_1 : decode cX9_firstOtherNode 1 = .ok (.istore_n 2, 1) := by decide +kernel
theorem dX9_firstOtherNode_2 : decode cX9_firstOtherNode 2 = .ok (.iload_n 2, 1) := by decide +kernel
theorem dX9_firstOtherNode_3 : decode cX9_firstOtherNode 3 = .ok (.aload_n 0, 1) := by decide +kernel
theorem dX9_firstOtherNode_4 : decode cX9_firstOtherNode 4 = .ok (.getfield 49, 3) := by decide +kernel
theorem dX9_firstOtherNode_7 : decode cX9_firstOtherNode 7 = .ok (.if_icmp .lt 11, 3) := by decide +kernel
theorem dX9_firstOtherNode_10 : decode cX9_firstOtherNode 10 = .ok (.iload_n 2, 1) := by decide +kernel
theorem dX9_firstOtherNode_11 : decode cX9_firstOtherNode 11 = .ok (.aload_n 1, 1) := by decide +kernel
theorem dX9_firstOtherNode_12 : decode cX9_firstOtherNode 12 = .ok (.getfield 49, 3) := by decide +kernel
theorem dX9_firstOtherNode_15 : decode cX9_firstOtherNode 15 = .ok (.if_icmp .ge 43, 3) := by decide +kernel
theorem dX9_firstOtherNode_18 : decode cX9_firstOtherNode 18 = .ok (.aload_n 0, 1) := by decide +kernel
theorem dX9_firstOtherNode_19 : decode cX9_firstOtherNode 19 = .ok (.iload_n 2, 1) := by decide +kernel
theorem dX9_firstOtherNode_20 : decode cX9_firstOtherNode 20 = .ok (.invokevirtual 66, 3) := by decide +kernel
theorem dX9_firstOtherNode_23 : decode cX9_firstOtherNode 23 = .ok (.ifCond .eq 27, 3) := by decide +kernel
theorem dX9_firstOtherNode_26 : decode cX9_firstOtherNode 26 = .ok (.aload_n 1, 1) := by decide +kernel
theorem dX9_firstOtherNode_27 : decode cX9_firstOtherNode 27 = .ok (.iload_n 2, 1) := by decide +kernel
theorem dX9_firstOtherNode_28 : decode cX9_firstOtherNode 28 = .ok (.invokevirtual 66, 3) := by decide +kernel
theorem dX9_firstOtherNode_31 : decode cX9_firstOtherNode 31 = .ok (.ifCond .eq 19, 3) := by decide +kernel
theorem dX9_firstOtherNode_34 : decode cX9_firstOtherNode 34 = .ok (.aload_n 0, 1) := by decide +kernel
theorem dX9_firstOtherNode_35 : decode cX9_firstOtherNode 35 = .ok (.iload_n 2, 1) := by decide +kernel
theorem dX9_firstOtherNode_36 : decode cX9_firstOtherNode 36 = .ok (.invokevirtual 89, 3) := by decide +kernel
theorem dX9_firstOtherNode_39 : decode cX9_firstOtherNode 39 = .ok (.aload_n 1, 1) := by decide +kernel
theorem dX9_firstOtherNode_40 : decode cX9_firstOtherNode 40 = .ok (.iload_n 2, 1) := by decide +kernel
theorem dX9_firstOtherNode_41 : decode cX9_firstOtherNode 41 = .ok (.invokevirtual 89, 3) := by decide +kernel
theorem dX9_firstOtherNode_44 : decode cX9_firstOtherNode 44 = .ok (.invokevirtual 175, 3) := by decide +kernel
theorem dX9_firstOtherNode_47 : decode cX9_firstOtherNode 47 = .ok (.ifCond .ne 5, 3) := by decide +kernel
theorem dX9_firstOtherNode_50 : decode cX9_firstOtherNode 50 = .ok (.iload_n 2, 1) := by decide +kernel
theorem dX9_firstOtherNode_51 : decode cX9_firstOtherNode 51 = .ok (.ireturn, 1) := by decide +kernel
theorem dX9_firstOtherNode_52 : decode cX9_firstOtherNode 52 = .ok (.iinc 2 1, 3) := by decide +kernel
theorem dX9_firstOtherNode_55 : decode cX9_firstOtherNode 55 = .ok (.goto (-53), 3) := by decide +kernel
theorem dX9_firstOtherNode_58 : decode cX9_firstOtherNode 58 = .ok (.bipush (-6), 2) := by decide +kernel
theorem dX9_firstOtherNode_60 : decode cX9_firstOtherNode 60 = .ok (.ireturn, 1) := by decide +kernel
theorem dX9_copyFrom_0 : decode cX9_copyFrom 0 = .ok (.aload_n 0, 1) := by decide +kernel
theorem dX9_copyFrom_1 : decode cX9_copyFrom 1 = .ok (.getfield 12, 3) := by decide +kernel
theorem dX9_copyFrom_4 : decode cX9_copyFrom 4 = .ok (.aload_n 1, 1) := by decide +kernel
theorem dX9_copyFrom_5 : decode cX9_copyFrom 5 = .ok (.getfield 12, 3) := by decide +kernel
theorem dX9_copyFrom_8 : decode cX9_copyFrom 8 = .ok (.invokevirtual 178, 3) := by decide +kernel
theorem dX9_copyFrom_11 : decode cX9_copyFrom 11 = .ok (.aload_n 0, 1) := by decide +kernel
theorem dX9_copyFrom_12 : decode cX9_copyFrom 12 = .ok (.aload_n 1, 1) := by decide +kernel
theorem dX9_copyFrom_13 : decode cX9_copyFrom 13 = .ok (.getfield 49, 3) := by decide +kernel
theorem dX9_copyFrom_16 : decode cX9_copyFrom 16 = .ok (.putfield 49, 3) := by decide +kernel
theorem dX9_copyFrom_19 : decode cX9_copyFrom 19 = .ok (.aload_n 0, 1) := by decide +kernel
theorem dX9_copyFrom_20 : decode cX9_copyFrom 20 = .ok (.aload_n 1, 1) := by decide +kernel
theorem dX9_copyFrom_21 : decode cX9_copyFrom 21 = .ok (.getfield 53, 3) := by decide +kernel
theorem dX9_copyFrom_24 : decode cX9_copyFrom 24 = .ok (.putfield 53, 3) := by decide +kernel
theorem dX9_copyFrom_27 : decode cX9_copyFrom 27 = .ok (.aload_n 0, 1) := by decide +kernel
theorem dX9_copyFrom_28 : decode cX9_copyFrom 28 = .ok (.aload_n 1, 1) := by decide +kernel
theorem dX9_copyFrom_29 : decode cX9_copyFrom 29 = .ok (.getfield 56, 3) := by decide +kernel
theorem dX9_copyFrom_32 : decode cX9_copyFrom 32 = .ok (.putfield 56, 3) := by decide +kernel
theorem dX9_copyFrom_35 : decode cX9_copyFrom 35 = .ok (.aload_n 0, 1) := by decide +kernel
theorem dX9_copyFrom_36 : decode cX9_copyFrom 36 = .ok (.aload_n 1, 1) := by decide +kernel
theorem dX9_copyFrom_37 : decode cX9_copyFrom 37 = .ok (.getfield 59, 3) := by decide +kernel
theorem dX9_copyFrom_40 : decode cX9_copyFrom 40 = .ok (.putfield 59, 3) := by decide +kernel
theorem dX9_copyFrom_43 : decode cX9_copyFrom 43 = .ok (.iconst 0, 1) := by decide +kernel
theorem dX9_copyFrom_44 : decode cX9_copyFrom 44 = .ok (.istore_n 2, 1) := by decide +kernel
theorem dX9_copyFrom_45 : decode cX9_copyFrom 45 = .ok (.iload_n 2, 1) := by decide +kernel
theorem dX9_copyFrom_46 : decode cX9_copyFrom 46 = .ok (.aload_n 0, 1) := by decide +kernel
theorem dX9_copyFrom_47 : decode cX9_copyFrom 47 = .ok (.getfield 49, 3) := by decide +kernel
theorem dX9_copyFrom_50 : decode cX9_copyFrom 50 = .ok (.if_icmp .ge 22, 3) := by decide +kernel
theorem dX9_copyFrom_53 : decode cX9_copyFrom 53 = .ok (.aload_n 0, 1) := by decide +kernel
theorem dX9_copyFrom_54 : decode cX9_copyFrom 54 = .ok (.iload_n 2, 1) := by decide +kernel
theorem dX9_copyFrom_55 : decode cX9_copyFrom 55 = .ok (.invokevirtual 89, 3) := by decide +kernel
theorem dX9_copyFrom_58 : decode cX9_copyFrom 58 = .ok (.aload_n 1, 1) := by decide +kernel
theorem dX9_copyFrom_59 : decode cX9_copyFrom 59 = .ok (.iload_n 2, 1) := by decide +kernel
theorem dX9_copyFrom_60 : decode cX9_copyFrom 60 = .ok (.invokevirtual 89, 3) := by decide +kernel
theorem dX9_copyFrom_63 : decode cX9_copyFrom 63 = .ok (.invokevirtual 181, 3) := by decide +kernel
theorem dX9_copyFrom_66 : decode cX9_copyFrom 66 = .ok (.iinc 2 1, 3) := by decide +kernel
theorem dX9_copyFrom_69 : decode cX9_copyFrom 69 = .ok (.goto (-24), 3) := by decide +kernel
theorem dX9_copyFrom_72 : decode cX9_copyFrom 72 = .ok (.aload_n 0, 1) := by decide +kernel
theorem dX9_copyFrom_73 : decode cX9_copyFrom 73 = .ok (.getfield 34, 3) := by decide +kernel
theorem dX9_copyFrom_76 : decode cX9_copyFrom 76 = .ok (.aload_n 1, 1) := by decide +kernel
theorem dX9_copyFrom_77 : decode cX9_copyFrom 77 = .ok (.getfield 34, 3) := by decide +kernel
theorem dX9_copyFrom_80 : decode cX9_copyFrom 80 = .ok (.invokevirtual 184, 3) := by decide +kernel
theorem dX9_copyFrom_83 : decode cX9_copyFrom 83 = .ok (.iconst 0, 1) := by decide +kernel
theorem dX9_copyFrom_84 : decode cX9_copyFrom 84 = .ok (.istore_n 2, 1) := by decide +kernel
theorem dX9_copyFrom_85 : decode cX9_copyFrom 85 = .ok (.iload_n 2, 1) := by decide +kernel
theorem dX9_copyFrom_86 : decode cX9_copyFrom 86 = .ok (.bipush 12, 2) := by decide +kernel
theorem dX9_copyFrom_88 : decode cX9_copyFrom 88 = .ok (.if_icmp .gt 21, 3) := by decide +kernel
theorem dX9_copyFrom_91 : decode cX9_copyFrom 91 = .ok (.aload_n 0, 1) := by decide +kernel
theorem dX9_copyFrom_92 : decode cX9_copyFrom 92 = .ok (.getfield 45, 3) := by decide +kernel
theorem dX9_copyFrom_95 : decode cX9_copyFrom 95 = .ok (.iload_n 2, 1) := by decide +kernel
theorem dX9_copyFrom_96 : decode cX9_copyFrom 96 = .ok (.aload_n 1, 1) := by decide +kernel
theorem dX9_copyFrom_97 : decode cX9_copyFrom 97 = .ok (.getfield 45, 3) := by decide +kernel
theorem dX9_copyFrom_100 : decode cX9_copyFrom 100 = .ok (.iload_n 2, 1) := by decide +kernel
theorem dX9_copyFrom_101 : decode cX9_copyFrom 101 = .ok (.iaload, 1) := by decide +kernel
theorem dX9_copyFrom_102 : decode cX9_copyFrom 102 = .ok (.iastore, 1) := by decide +kernel
theorem dX9_copyFrom_103 : decode cX9_copyFrom 103 = .ok (.iinc 2 1, 3) := by decide +kernel
theorem dX9_copyFrom_106 : decode cX9_copyFrom 106 = .ok (.goto (-21), 3) := by decide +kernel
theorem dX9_copyFrom_109 : decode cX9_copyFrom 109 = .ok (.return_, 1) := by decide +kernel
theorem dX10_init_0 : decode cX10_init 0 = .ok (.aload_n 0, 1) := by decide +kernel
theorem dX10_init_1 : decode cX10_init 1 = .ok (.invokespecial 1, 3) := by decide +kernel
theorem dX10_init_4 : decode cX10_init 4 = .ok (.aload_n 0, 1) := by decide +kernel
theorem dX10_init_5 : decode cX10_init 5 = .ok (.new 7, 3) := by decide +kernel
theorem dX10_init_8 : decode cX10_init 8 = .ok (.dup, 1) := by decide +kernel
theorem dX10_init_9 : decode cX10_init 9 = .ok (.invokespecial 9, 3) := by decide +kernel
theorem dX10_init_12 : decode cX10_init 12 = .ok (.putfield 10, 3) := by decide +kernel
theorem dX10_init_15 : decode cX10_init 15 = .ok (.aload_n 0, 1) := by decide +kernel
theorem dX10_init_16 : decode cX10_init 16 = .ok (.new 16, 3) := by decide +kernel
theorem dX10_init_19 : decode cX10_init 19 = .ok (.dup, 1) := by decide +kernel
theorem dX10_init_20 : decode cX10_init 20 = .ok (.aload_n 0, 1) := by decide +kernel
theorem dX10_init_21 : decode cX10_init 21 = .ok (.getfield 10, 3) := by decide +kernel
theorem dX10_init_24 : decode cX10_init 24 = .ok (.invokespecial 18, 3) := by decide +kernel
theorem dX10_init_27 : decode cX10_init 27 = .ok (.putfield 21, 3) := by decide +kernel
theorem dX10_init_30 : decode cX10_init 30 = .ok (.aload_n 0, 1) := by decide +kernel
theorem dX10_init_31 : decode cX10_init 31 = .ok (.new 25, 3) := by decide +kernel
theorem dX10_init_34 : decode cX10_init 34 = .ok (.dup, 1) := by decide +kernel
theorem dX10_init_35 : decode cX10_init 35 = .ok (.aload_n 0, 1) := by decide +kernel
theorem dX10_init_36 : decode cX10_init 36 = .ok (.getfield 21, 3) := by decide +kernel
theorem dX10_init_39 : decode cX10_init 39 = .ok (.invokespecial 27, 3) := by decide +kernel
theorem dX10_init_42 : decode cX10_init 42 = .ok (.putfield 30, 3) := by decide +kernel
theorem dX10_init_45 : decode cX10_init 45 = .ok (.aload_n 0, 1) := by decide +kernel
theorem dX10_init_46 : decode cX10_init 46 = .ok (.new 34, 3) := by decide +kernel
theorem dX10_init_49 : decode cX10_init 49 = .ok (.dup, 1) := by decide +kernel
theorem dX10_init_50 : decode cX10_init 50 = .ok (.aload_n 0, 1) := by decide +kernel
theorem dX10_init_51 : decode cX10_init 51 = .ok (.getfield 21, 3) := by decide +kernel
theorem dX10_init_54 : decode cX10_init 54 = .ok (.invokespecial 36, 3) := by decide +kernel
theorem dX10_init_57 : decode cX10_init 57 = .ok (.putfield 37, 3) := by decide +kernel
theorem dX10_init_60 : decode cX10_init 60 = .ok (.aload_n 0, 1) := by decide +kernel
theorem dX10_init_61 : decode cX10_init 61 = .ok (.iconst 2, 1) := by decide +kernel
theorem dX10_init_62 : decode cX10_init 62 = .ok (.anewarray 16, 3) := by decide +kernel
theorem dX10_init_65 : decode cX10_init 65 = .ok (.putfield 41, 3) := by decide +kernel
theorem dX10_init_68 : decode cX10_init 68 = .ok (.aload_n 0, 1) := by decide +kernel
theorem dX10_init_69 : decode cX10_init 69 = .ok (.iconst 2, 1) := by decide +kernel
theorem dX10_init_70 : decode cX10_init 70 = .ok (.newarray .boolean, 2) := by decide +kernel
theorem dX10_init_72 : decode cX10_init 72 = .ok (.putfield 45, 3) := by decide +kernel
theorem dX10_init_75 : decode cX10_init 75 = .ok (.iconst 0, 1) := by decide +kernel
theorem dX10_init_76 : decode cX10_init 76 = .ok (.istore_n 1, 1) := by decide +kernel
theorem dX10_init_77 : decode cX10_init 77 = .ok (.iload_n 1, 1) := by decide +kernel
theorem dX10_init_78 : decode cX10_init 78 = .ok (.iconst 2, 1) := by decide +kernel
theorem dX10_init_79 : decode cX10_init 79 = .ok (.if_icmp .ge 26, 3) := by decide +kernel
theorem dX10_init_82 : decode cX10_init 82 = .ok (.aload_n 0, 1) := by decide +kernel
theorem dX10_init_83 : decode cX10_init 83 = .ok (.getfield 41, 3) := by decide +kernel
theorem dX10_init_86 : decode cX10_init 86 = .ok (.iload_n 1, 1) := by decide +kernel
theorem dX10_init_87 : decode cX10_init 87 = .ok (.new 16, 3) := by decide +kernel
theorem dX10_init_90 : decode cX10_init 90 = .ok (.dup, 1) := by decide +kernel
theorem dX10_init_91 : decode cX10_init 91 = .ok (.aload_n 0, 1) := by decide +kernel
theorem dX10_init_92 : decode cX10_init 92 = .ok (.getfield 10, 3) := by decide +kernel
theorem dX10_init_95 : decode cX10_init 95 = .ok (.invokespecial 18, 3) := by decide +kernel
theorem dX10_init_98 : decode cX10_init 98 = .ok (.aastore, 1) := by decide +kernel
theorem dX10_init_99 : decode cX10_init 99 = .ok (.iinc 1 1, 3) := by decide +kernel
theorem dX10_init_102 : decode cX10_init 102 = .ok (.goto (-25), 3) := by decide +kernel
theorem dX10_init_105 : decode cX10_init 105 = .ok (.return_, 1) := by decide +kernel
theorem dX10_sizes_0 : decode cX10_sizes 0 = .ok (.iload_n 1, 1) := by decide +kernel
theorem dX10_sizes_1 : decode cX10_sizes 1 = .ok (.iconst 2, 1) := by decide +kernel
theorem dX10_sizes_2 : decode cX10_sizes 2 = .ok (.if_icmp .lt 19, 3) := by decide +kernel
theorem dX10_sizes_5 : decode cX10_sizes 5 = .ok (.iload_n 1, 1) := by decide +kernel
theorem dX10_sizes_6 : decode cX10_sizes 6 = .ok (.iconst 5, 1) := by decide +kernel
theorem dX10_sizes_7 : decode cX10_sizes 7 = .ok (.if_icmp .gt 14, 3) := by decide +kernel
theorem dX10_sizes_10 : decode cX10_sizes 10 = .ok (.iload_n 2, 1) := by decide +kernel
theorem dX10_sizes_11 : decode cX10_sizes 11 = .ok (.iconst 2, 1) := by decide +kernel
theorem dX10_sizes_12 : decode cX10_sizes 12 = .ok (.if_icmp .lt 9, 3) := by decide +kernel
theorem dX10_sizes_15 : decode cX10_sizes 15 = .ok (.iload_n 2, 1) := by decide +kernel
theorem dX10_sizes_16 : decode cX10_sizes 16 = .ok (.bipush 8, 2) := by decide +kernel
theorem dX10_sizes_18 : decode cX10_sizes 18 = .ok (.if_icmp .le 6, 3) := by decide +kernel
theorem dX10_sizes_21 : decode cX10_sizes 21 = .ok (.bipush (-2), 2) := by decide +kernel
theorem dX10_sizes_23 : decode cX10_sizes 23 = .ok (.ireturn, 1) := by decide +kernel
theorem dX10_sizes_24 : decode cX10_sizes 24 = .ok (.aload_n 0, 1) := by decide +kernel
theorem dX10_sizes_25 : decode cX10_sizes 25 = .ok (.getfield 21, 3) := by decide +kernel
theorem dX10_sizes_28 : decode cX10_sizes 28 = .ok (.getfield 49, 3) := by decide +kernel
theorem dX10_sizes_31 : decode cX10_sizes 31 = .ok (.ifCond .le 6, 3) := by decide +kernel
theorem dX10_sizes_34 : decode cX10_sizes 34 = .ok (.bipush (-3), 2) := by decide +kernel
theorem dX10_sizes_36 : decode cX10_sizes 36 = .ok (.ireturn, 1) := by decide +kernel
theorem dX10_sizes_37 : decode cX10_sizes 37 = .ok (.aload_n 0, 1) := by decide +kernel
theorem dX10_sizes_38 : decode cX10_sizes 38 = .ok (.getfield 21, 3) := by decide +kernel
theorem dX10_sizes_41 : decode cX10_sizes 41 = .ok (.getfield 53, 3) := by decide +kernel
theorem dX10_sizes_44 : decode cX10_sizes 44 = .ok (.iload_n 1, 1) := by decide +kernel
theorem dX10_sizes_45 : decode cX10_sizes 45 = .ok (.putfield 57, 3) := by decide +kernel
theorem dX10_sizes_48 : decode cX10_sizes 48 = .ok (.aload_n 0, 1) := by decide +kernel
theorem dX10_sizes_49 : decode cX10_sizes 49 = .ok (.getfield 21, 3) := by decide +kernel
theorem dX10_sizes_52 : decode cX10_sizes 52 = .ok (.getfield 53, 3) := by decide +kernel
theorem dX10_sizes_55 : decode cX10_sizes 55 = .ok (.iload_n 2, 1) := by decide +kernel
theorem dX10_sizes_56 : decode cX10_sizes 56 = .ok (.putfield 62, 3) := by decide +kernel
theorem dX10_sizes_59 : decode cX10_sizes 59 = .ok (.iconst 1, 1) := by decide +kernel
theorem dX10_sizes_60 : decode cX10_sizes 60 = .ok (.ireturn, 1) := by decide +kernel
theorem dX10_walks_0 : decode cX10_walks 0 = .ok (.iload_n 1, 1) := by decide +kernel
theorem dX10_walks_1 : decode cX10_walks 1 = .ok (.iconst 1, 1) := by decide +kernel
theorem dX10_walks_2 : decode cX10_walks 2 = .ok (.if_icmp .lt 18, 3) := by decide +kernel
theorem dX10_walks_5 : decode cX10_walks 5 = .ok (.iload_n 1, 1) := by decide +kernel
theorem dX10_walks_6 : decode cX10_walks 6 = .ok (.bipush 6, 2) := by decide +kernel
theorem dX10_walks_8 : decode cX10_walks 8 = .ok (.if_icmp .gt 12, 3) := by decide +kernel
theorem dX10_walks_11 : decode cX10_walks 11 = .ok (.iload_n 2, 1) := by decide +kernel
theorem dX10_walks_12 : decode cX10_walks 12 = .ok (.ifCond .lt 8, 3) := by decide +kernel
theorem dX10_walks_15 : decode cX10_walks 15 = .ok (.iload_n 2, 1) := by decide +kernel
theorem dX10_walks_16 : decode cX10_walks 16 = .ok (.iload_n 1, 1) := by decide +kernel
theorem dX10_walks_17 : decode cX10_walks 17 = .ok (.if_icmp .le 6, 3) := by decide +kernel
theorem dX10_walks_20 : decode cX10_walks 20 = .ok (.bipush (-2), 2) := by decide +kernel
theorem dX10_walks_22 : decode cX10_walks 22 = .ok (.ireturn, 1) := by decide +kernel
theorem dX10_walks_23 : decode cX10_walks 23 = .ok (.iload_n 3, 1) := by decide +kernel
theorem dX10_walks_24 : decode cX10_walks 24 = .ok (.iconst 1, 1) := by decide +kernel
theorem dX10_walks_25 : decode cX10_walks 25 = .ok (.if_icmp .lt 9, 3) := by decide +kernel
theorem dX10_walks_28 : decode cX10_walks 28 = .ok (.iload_n 3, 1) := by decide +kernel
theorem dX10_walks_29 : decode cX10_walks 29 = .ok (.bipush 20, 2) := by decide +kernel
theorem dX10_walks_31 : decode cX10_walks 31 = .ok (.if_icmp .le 6, 3) := by decide +kernel
theorem dX10_walks_34 : decode cX10_walks 34 = .ok (.bipush (-2), 2) := by decide +kernel
theorem dX10_walks_36 : decode cX10_walks 36 = .ok (.ireturn, 1) := by decide +kernel
theorem dX10_walks_37 : decode cX10_walks 37 = .ok (.aload_n 0, 1) := by decide +kernel
theorem dX10_walks_38 : decode cX10_walks 38 = .ok (.getfield 21, 3) := by decide +kernel
theorem dX10_walks_41 : decode cX10_walks 41 = .ok (.getfield 49, 3) := by decide +kernel
theorem dX10_walks_44 : decode cX10_walks 44 = .ok (.ifCond .le 6, 3) := by decide +kernel
theorem dX10_walks_47 : decode cX10_walks 47 = .ok (.bipush (-3), 2) := by decide +kernel
theorem dX10_walks_49 : decode cX10_walks 49 = .ok (.ireturn, 1) := by decide +kernel
theorem dX10_walks_50 : decode cX10_walks 50 = .ok (.aload_n 0, 1) := by decide +kernel
theorem dX10_walks_51 : decode cX10_walks 51 = .ok (.getfield 21, 3) := by decide +kernel
theorem dX10_walks_54 : decode cX10_walks 54 = .ok (.getfield 53, 3) := by decide +kernel
theorem dX10_walks_57 : decode cX10_walks 57 = .ok (.iload_n 1, 1) := by decide +kernel
theorem dX10_walks_58 : decode cX10_walks 58 = .ok (.putfield 65, 3) := by decide +kernel
theorem dX10_walks_61 : decode cX10_walks 61 = .ok (.aload_n 0, 1) := by decide +kernel
theorem dX10_walks_62 : decode cX10_walks 62 = .ok (.getfield 21, 3) := by decide +kernel
theorem dX10_walks_65 : decode cX10_walks 65 = .ok (.getfield 53, 3) := by decide +kernel
theorem dX10_walks_68 : decode cX10_walks 68 = .ok (.iload_n 2, 1) := by decide +kernel
theorem dX10_walks_69 : decode cX10_walks 69 = .ok (.putfield 68, 3) := by decide +kernel
theorem dX10_walks_72 : decode cX10_walks 72 = .ok (.aload_n 0, 1) := by decide +kernel
theorem dX10_walks_73 : decode cX10_walks 73 = .ok (.getfield 21, 3) := by decide +kernel
theorem dX10_walks_76 : decode cX10_walks 76 = .ok (.getfield 53, 3) := by decide +kernel
theorem dX10_walks_79 : decode cX10_walks 79 = .ok (.iload_n 3, 1) := by decide +kernel
theorem dX10_walks_80 : decode cX10_walks 80 = .ok (.putfield 71, 3) := by decide +kernel
theorem dX10_walks_83 : decode cX10_walks 83 = .ok (.iconst 1, 1) := by decide +kernel
theorem dX10_walks_84 : decode cX10_walks 84 = .ok (.ireturn, 1) := by decide +kernel
theorem dX10_coin_0 : decode cX10_coin 0 = .ok (.iload_n 1, 1) := by decide +kernel
theorem dX10_coin_1 : decode cX10_coin 1 = .ok (.ifCond .ge 6, 3) := by decide +kernel
theorem dX10_coin_4 : decode cX10_coin 4 = .ok (.bipush (-2), 2) := by decide +kernel
theorem dX10_coin_6 : decode cX10_coin 6 = .ok (.ireturn, 1) := by decide +kernel
theorem dX10_coin_7 : decode cX10_coin 7 = .ok (.aload_n 0, 1) := by decide +kernel
theorem dX10_coin_8 : decode cX10_coin 8 = .ok (.getfield 10, 3) := by decide +kernel
theorem dX10_coin_11 : decode cX10_coin 11 = .ok (.iload_n 1, 1) := by decide +kernel
theorem dX10_coin_12 : decode cX10_coin 12 = .ok (.invokevirtual 74, 3) := by decide +kernel
theorem dX10_coin_15 : decode cX10_coin 15 = .ok (.ifCond .eq 13, 3) := by decide +kernel
theorem dX10_coin_18 : decode cX10_coin 18 = .ok (.aload_n 0, 1) := by decide +kernel
theorem dX10_coin_19 : decode cX10_coin 19 = .ok (.getfield 10, 3) := by decide +kernel
theorem dX10_coin_22 : decode cX10_coin 22 = .ok (.getfield 78, 3) := by decide +kernel
theorem dX10_coin_25 : decode cX10_coin 25 = .ok (.goto 5, 3) := by decide +kernel
theorem dX10_coin_28 : decode cX10_coin 28 = .ok (.bipush (-4), 2) := by decide +kernel
theorem dX10_coin_30 : decode cX10_coin 30 = .ok (.ireturn, 1) := by decide +kernel
theorem dX10_node_0 : decode cX10_node 0 = .ok (.aload_n 0, 1) := by decide +kernel
theorem dX10_node_1 : decode cX10_node 1 = .ok (.getfield 21, 3) := by decide +kernel
theorem dX10_node_4 : decode cX10_node 4 = .ok (.invokevirtual 81, 3) := by decide +kernel
theorem dX10_node_7 : decode cX10_node 7 = .ok (.ireturn, 1) := by decide +kernel
theorem dX10_join_0 : decode cX10_join 0 = .ok (.aload_n 0, 1) := by decide +kernel
theorem dX10_join_1 : decode cX10_join 1 = .ok (.getfield 21, 3) := by decide +kernel
theorem dX10_join_4 : decode cX10_join 4 = .ok (.iload_n 1, 1) := by decide +kernel
theorem dX10_join_5 : decode cX10_join 5 = .ok (.invokevirtual 85, 3) := by decide +kernel
theorem dX10_join_8 : decode cX10_join 8 = .ok (.ifCond .eq 14, 3) := by decide +kernel
theorem dX10_join_11 : decode cX10_join 11 = .ok (.aload_n 0, 1) := by decide +kernel
theorem dX10_join_12 : decode cX10_join 12 = .ok (.getfield 21, 3) := by decide +kernel
theorem dX10_join_15 : decode cX10_join 15 = .ok (.iload_n 2, 1) := by decide +kernel
theorem dX10_join_16 : decode cX10_join 16 = .ok (.invokevirtual 85, 3) := by decide +kernel
theorem dX10_join_19 : decode cX10_join 19 = .ok (.ifCond .ne 5, 3) := by decide +kernel
theorem dX10_join_22 : decode cX10_join 22 = .ok (.iconst (-1), 1) := by decide +kernel
theorem dX10_join_23 : decode cX10_join 23 = .ok (.ireturn, 1) := by decide +kernel
theorem dX10_join_24 : decode cX10_join 24 = .ok (.aload_n 0, 1) := by decide +kernel
theorem dX10_join_25 : decode cX10_join 25 = .ok (.getfield 21, 3) := by decide +kernel
theorem dX10_join_28 : decode cX10_join 28 = .ok (.iload_n 1, 1) := by decide +kernel
theorem dX10_join_29 : decode cX10_join 29 = .ok (.invokevirtual 88, 3) := by decide +kernel
theorem dX10_join_32 : decode cX10_join 32 = .ok (.getfield 92, 3) := by decide +kernel
theorem dX10_join_35 : decode cX10_join 35 = .ok (.ifCond .eq 17, 3) := by decide +kernel
theorem dX10_join_38 : decode cX10_join 38 = .ok (.aload_n 0, 1) := by decide +kernel
theorem dX10_join_39 : decode cX10_join 39 = .ok (.getfield 21, 3) := by decide +kernel
theorem dX10_join_42 : decode cX10_join 42 = .ok (.iload_n 2, 1) := by decide +kernel
theorem dX10_join_43 : decode cX10_join 43 = .ok (.invokevirtual 88, 3) := by decide +kernel
theorem dX10_join_46 : decode cX10_join 46 = .ok (.getfield 92, 3) := by decide +kernel
theorem dX10_join_49 : decode cX10_join 49 = .ok (.ifCond .ne 6, 3) := by decide +kernel
theorem dX10_join_52 : decode cX10_join 52 = .ok (.bipush (-3), 2) := by decide +kernel
theorem dX10_join_54 : decode cX10_join 54 = .ok (.ireturn, 1) := by decide +kernel
theorem dX10_join_55 : decode cX10_join 55 = .ok (.iload_n 1, 1) := by decide +kernel
theorem dX10_join_56 : decode cX10_join 56 = .ok (.iload_n 2, 1) := by decide +kernel
theorem dX10_join_57 : decode cX10_join 57 = .ok (.if_icmp .ne 6, 3) := by decide +kernel
theorem dX10_join_60 : decode cX10_join 60 = .ok (.bipush (-5), 2) := by decide +kernel
theorem dX10_join_62 : decode cX10_join 62 = .ok (.ireturn, 1) := by decide +kernel
theorem dX10_join_63 : decode cX10_join 63 = .ok (.aload_n 0, 1) := by decide +kernel
theorem dX10_join_64 : decode cX10_join 64 = .ok (.getfield 21, 3) := by decide +kernel
theorem dX10_join_67 : decode cX10_join 67 = .ok (.iload_n 1, 1) := by decide +kernel
theorem dX10_join_68 : decode cX10_join 68 = .ok (.iload_n 2, 1) := by decide +kernel
theorem dX10_join_69 : decode cX10_join 69 = .ok (.iconst 1, 1) := by decide +kernel
theorem dX10_join_70 : decode cX10_join 70 = .ok (.iconst 0, 1) := by decide +kernel
theorem dX10_join_71 : decode cX10_join 71 = .ok (.iconst 0, 1) := by decide +kernel
theorem dX10_join_72 : decode cX10_join 72 = .ok (.invokevirtual 98, 3) := by decide +kernel
theorem dX10_join_75 : decode cX10_join 75 = .ok (.pop, 1) := by decide +kernel
theorem dX10_join_76 : decode cX10_join 76 = .ok (.aload_n 0, 1) := by decide +kernel
theorem dX10_join_77 : decode cX10_join 77 = .ok (.getfield 21, 3) := by decide +kernel
theorem dX10_join_80 : decode cX10_join 80 = .ok (.getfield 102, 3) := by decide +kernel
theorem dX10_join_83 : decode cX10_join 83 = .ok (.getfield 106, 3) := by decide +kernel
theorem dX10_join_86 : decode cX10_join 86 = .ok (.ireturn, 1) := by decide +kernel
theorem dX10_stop_0 : decode cX10_stop 0 = .ok (.aload_n 0, 1) := by decide +kernel
theorem dX10_stop_1 : decode cX10_stop 1 = .ok (.iload_n 1, 1) := by decide +kernel
theorem dX10_stop_2 : decode cX10_stop 2 = .ok (.invokevirtual 109, 3) := by decide +kernel
theorem dX10_stop_5 : decode cX10_stop 5 = .ok (.istore_n 2, 1) := by decide +kernel
theorem dX10_stop_6 : decode cX10_stop 6 = .ok (.iload_n 2, 1) := by decide +kernel
theorem dX10_stop_7 : decode cX10_stop 7 = .ok (.ifCond .eq 7, 3) := by decide +kernel
theorem dX10_stop_10 : decode cX10_stop 10 = .ok (.iload_n 2, 1) := by decide +kernel
theorem dX10_stop_11 : decode cX10_stop 11 = .ok (.goto 18, 3) := by decide +kernel
theorem dX10_stop_14 : decode cX10_stop 14 = .ok (.aload_n 0, 1) := by decide +kernel
theorem dX10_stop_15 : decode cX10_stop 15 = .ok (.getfield 21, 3) := by decide +kernel
theorem dX10_stop_18 : decode cX10_stop 18 = .ok (.aload_n 0, 1) := by decide +kernel
theorem dX10_stop_19 : decode cX10_stop 19 = .ok (.getfield 21, 3) := by decide +kernel
theorem dX10_stop_22 : decode cX10_stop 22 = .ok (.iload_n 1, 1) := by decide +kernel
theorem dX10_stop_23 : decode cX10_stop 23 = .ok (.invokevirtual 88, 3) := by decide +kernel
theorem dX10_stop_26 : decode cX10_stop 26 = .ok (.invokevirtual 113, 3) := by decide +kernel
theorem dX10_stop_29 : decode cX10_stop 29 = .ok (.ireturn, 1) := by decide +kernel
theorem dX10_mix_0 : decode cX10_mix 0 = .ok (.aload_n 0, 1) := by decide +kernel
theorem dX10_mix_1 : decode cX10_mix 1 = .ok (.iload_n 1, 1) := by decide +kernel
theorem dX10_mix_2 : decode cX10_mix 2 = .ok (.invokevirtual 109, 3) := by decide +kernel
theorem dX10_mix_5 : decode cX10_mix 5 = .ok (.istore_n 2, 1) := by decide +kernel
theorem dX10_mix_6 : decode cX10_mix 6 = .ok (.iload_n 2, 1) := by decide +kernel
theorem dX10_mix_7 : decode cX10_mix 7 = .ok (.ifCond .eq 7, 3) := by decide +kernel
theorem dX10_mix_10 : decode cX10_mix 10 = .ok (.iload_n 2, 1) := by decide +kernel
theorem dX10_mix_11 : decode cX10_mix 11 = .ok (.goto 18, 3) := by decide +kernel
theorem dX10_mix_14 : decode cX10_mix 14 = .ok (.aload_n 0, 1) := by decide +kernel
theorem dX10_mix_15 : decode cX10_mix 15 = .ok (.getfield 30, 3) := by decide +kernel
theorem dX10_mix_18 : decode cX10_mix 18 = .ok (.aload_n 0, 1) := by decide +kernel
theorem dX10_mix_19 : decode cX10_mix 19 = .ok (.getfield 21, 3) := by decide +kernel
theorem dX10_mix_22 : decode cX10_mix 22 = .ok (.iload_n 1, 1) := by decide +kernel
theorem dX10_mix_23 : decode cX10_mix 23 = .ok (.invokevirtual 88, 3) := by decide +kernel
theorem dX10_mix_26 : decode cX10_mix 26 = .ok (.invokevirtual 117, 3) := by decide +kernel
theorem dX10_mix_29 : decode cX10_mix 29 = .ok (.ireturn, 1) := by decide +kernel
theorem dX10_tale_0 : decode cX10_tale 0 = .ok (.aload_n 0, 1) := by decide +kernel
theorem dX10_tale_1 : decode cX10_tale 1 = .ok (.iload_n 1, 1) := by decide +kernel
theorem dX10_tale_2 : decode cX10_tale 2 = .ok (.invokevirtual 109, 3) := by decide +kernel
theorem dX10_tale_5 : decode cX10_tale 5 = .ok (.istore_n 2, 1) := by decide +kernel
theorem dX10_tale_6 : decode cX10_tale 6 = .ok (.iload_n 2, 1) := by decide +kernel
theorem dX10_tale_7 : decode cX10_tale 7 = .ok (.ifCond .eq 5, 3) := by decide +kernel
theorem dX10_tale_10 : decode cX10_tale 10 = .ok (.iload_n 2, 1) := by decide +kernel
theorem dX10_tale_11 : decode cX10_tale 11 = .ok (.ireturn, 1) := by decide +kernel
theorem dX10_tale_12 : decode cX10_tale 12 = .ok (.aload_n 0, 1) := by decide +kernel
theorem dX10_tale_13 : decode cX10_tale 13 = .ok (.getfield 21, 3) := by decide +kernel
theorem dX10_tale_16 : decode cX10_tale 16 = .ok (.getfield 120, 3) := by decide +kernel
theorem dX10_tale_19 : decode cX10_tale 19 = .ok (.bipush 24, 2) := by decide +kernel
theorem dX10_tale_21 : decode cX10_tale 21 = .ok (.if_icmp .lt 6, 3) := by decide +kernel
theorem dX10_tale_24 : decode cX10_tale 24 = .ok (.bipush (-4), 2) := by decide +kernel
theorem dX10_tale_26 : decode cX10_tale 26 = .ok (.ireturn, 1) := by decide +kernel
theorem dX10_tale_27 : decode cX10_tale 27 = .ok (.aload_n 0, 1) := by decide +kernel
theorem dX10_tale_28 : decode cX10_tale 28 = .ok (.getfield 21, 3) := by decide +kernel
theorem dX10_tale_31 : decode cX10_tale 31 = .ok (.getfield 120, 3) := by decide +kernel
theorem dX10_tale_34 : decode cX10_tale 34 = .ok (.istore_n 3, 1) := by decide +kernel
theorem dX10_tale_35 : decode cX10_tale 35 = .ok (.aload_n 0, 1) := by decide +kernel
theorem dX10_tale_36 : decode cX10_tale 36 = .ok (.getfield 21, 3) := by decide +kernel
theorem dX10_tale_39 : decode cX10_tale 39 = .ok (.dup, 1) := by decide +kernel
theorem dX10_tale_40 : decode cX10_tale 40 = .ok (.getfield 120, 3) := by decide +kernel
theorem dX10_tale_43 : decode cX10_tale 43 = .ok (.iconst 1, 1) := by decide +kernel
theorem dX10_tale_44 : decode cX10_tale 44 = .ok (.iadd, 1) := by decide +kernel
theorem dX10_tale_45 : decode cX10_tale 45 = .ok (.putfield 120, 3) := by decide +kernel
theorem dX10_tale_48 : decode cX10_tale 48 = .ok (.aload_n 0, 1) := by decide +kernel
theorem dX10_tale_49 : decode cX10_tale 49 = .ok (.getfield 37, 3) := by decide +kernel
theorem dX10_tale_52 : decode cX10_tale 52 = .ok (.aload_n 0, 1) := by decide +kernel
theorem dX10_tale_53 : decode cX10_tale 53 = .ok (.getfield 21, 3) := by decide +kernel
theorem dX10_tale_56 : decode cX10_tale 56 = .ok (.iload_n 1, 1) := by decide +kernel
theorem dX10_tale_57 : decode cX10_tale 57 = .ok (.invokevirtual 88, 3) := by decide +kernel
theorem dX10_tale_60 : decode cX10_tale 60 = .ok (.iload_n 3, 1) := by decide +kernel
theorem dX10_tale_61 : decode cX10_tale 61 = .ok (.iconst 0, 1) := by decide +kernel
theorem dX10_tale_62 : decode cX10_tale 62 = .ok (.bipush (-6), 2) := by decide +kernel
theorem dX10_tale_64 : decode cX10_tale 64 = .ok (.invokevirtual 123, 3) := by decide +kernel
theorem dX10_tale_67 : decode cX10_tale 67 = .ok (.iload_n 3, 1) := by decide +kernel
theorem dX10_tale_68 : decode cX10_tale 68 = .ok (.ireturn, 1) := by decide +kernel
theorem dX10_tick_0 : decode cX10_tick 0 = .ok (.aload_n 0, 1) := by decide +kernel
theorem dX10_tick_1 : decode cX10_tick 1 = .ok (.getfield 37, 3) := by decide +kernel
theorem dX10_tick_4 : decode cX10_tick 4 = .ok (.invokevirtual 127, 3) := by decide +kernel
theorem dX10_tick_7 : decode cX10_tick 7 = .ok (.ireturn, 1) := by decide +kernel
theorem dX10_deliver_0 : decode cX10_deliver 0 = .ok (.aload_n 0, 1) := by decide +kernel
theorem dX10_deliver_1 : decode cX10_deliver 1 = .ok (.getfield 21, 3) := by decide +kernel
theorem dX10_deliver_4 : decode cX10_deliver 4 = .ok (.getfield 102, 3) := by decide +kernel
theorem dX10_deliver_7 : decode cX10_deliver 7 = .ok (.iload_n 1, 1) := by decide +kernel
theorem dX10_deliver_8 : decode cX10_deliver 8 = .ok (.invokevirtual 130, 3) := by decide +kernel
theorem dX10_deliver_11 : decode cX10_deliver 11 = .ok (.ifCond .ne 5, 3) := by decide +kernel
theorem dX10_deliver_14 : decode cX10_deliver 14 = .ok (.iconst (-1), 1) := by decide +kernel
theorem dX10_deliver_15 : decode cX10_deliver 15 = .ok (.ireturn, 1) := by decide +kernel
theorem dX10_deliver_16 : decode cX10_deliver 16 = .ok (.aload_n 0, 1) := by decide +kernel
theorem dX10_deliver_17 : decode cX10_deliver 17 = .ok (.getfield 21, 3) := by decide +kernel
theorem dX10_deliver_20 : decode cX10_deliver 20 = .ok (.getfield 102, 3) := by decide +kernel
theorem dX10_deliver_23 : decode cX10_deliver 23 = .ok (.iload_n 1, 1) := by decide +kernel
theorem dX10_deliver_24 : decode cX10_deliver 24 = .ok (.invokevirtual 133, 3) := by decide +kernel
theorem dX10_deliver_27 : decode cX10_deliver 27 = .ok (.ifCond .eq 11, 3) := by decide +kernel
theorem dX10_deliver_30 : decode cX10_deliver 30 = .ok (.aload_n 0, 1) := by decide +kernel
theorem dX10_deliver_31 : decode cX10_deliver 31 = .ok (.iload_n 1, 1) := by decide +kernel
theorem dX10_deliver_32 : decode cX10_deliver 32 = .ok (.invokevirtual 136, 3) := by decide +kernel
theorem dX10_deliver_35 : decode cX10_deliver 35 = .ok (.goto 5, 3) := by decide +kernel
theorem dX10_deliver_38 : decode cX10_deliver 38 = .ok (.bipush (-5), 2) := by decide +kernel
theorem dX10_deliver_40 : decode cX10_deliver 40 = .ok (.ireturn, 1) := by decide +kernel
theorem dX10_go_0 : decode cX10_go 0 = .ok (.iload_n 1, 1) := by decide +kernel
theorem dX10_go_1 : decode cX10_go 1 = .ok (.ifCond .lt 10, 3) := by decide +kernel
theorem dX10_go_4 : decode cX10_go 4 = .ok (.iload_n 1, 1) := by decide +kernel
theorem dX10_go_5 : decode cX10_go 5 = .ok (.sipush 2000, 3) := by decide +kernel
theorem dX10_go_8 : decode cX10_go 8 = .ok (.if_icmp .le 6, 3) := by decide +kernel
theorem dX10_go_11 : decode cX10_go 11 = .ok (.bipush (-2), 2) := by decide +kernel
theorem dX10_go_13 : decode cX10_go 13 = .ok (.ireturn, 1) := by decide +kernel
theorem dX10_go_14 : decode cX10_go 14 = .ok (.iconst 0, 1) := by decide +kernel
theorem dX10_go_15 : decode cX10_go 15 = .ok (.istore_n 2, 1) := by decide +kernel
theorem dX10_go_16 : decode cX10_go 16 = .ok (.iload_n 2, 1) := by decide +kernel
theorem dX10_go_17 : decode cX10_go 17 = .ok (.iload_n 1, 1) := by decide +kernel
theorem dX10_go_18 : decode cX10_go 18 = .ok (.if_icmp .ge 28, 3) := by decide +kernel
theorem dX10_go_21 : decode cX10_go 21 = .ok (.aload_n 0, 1) := by decide +kernel
theorem dX10_go_22 : decode cX10_go 22 = .ok (.getfield 21, 3) := by decide +kernel
theorem dX10_go_25 : decode cX10_go 25 = .ok (.getfield 102, 3) := by decide +kernel
theorem dX10_go_28 : decode cX10_go 28 = .ok (.getfield 106, 3) := by decide +kernel
theorem dX10_go_31 : decode cX10_go 31 = .ok (.ifCond .le 15, 3) := by decide +kernel
theorem dX10_go_34 : decode cX10_go 34 = .ok (.aload_n 0, 1) := by decide +kernel
theorem dX10_go_35 : decode cX10_go 35 = .ok (.iconst 0, 1) := by decide +kernel
theorem dX10_go_36 : decode cX10_go 36 = .ok (.invokevirtual 136, 3) := by decide +kernel
theorem dX10_go_39 : decode cX10_go 39 = .ok (.pop, 1) := by decide +kernel
theorem dX10_go_40 : decode cX10_go 40 = .ok (.iinc 2 1, 3) := by decide +kernel
theorem dX10_go_43 : decode cX10_go 43 = .ok (.goto (-27), 3) := by decide +kernel
theorem dX10_go_46 : decode cX10_go 46 = .ok (.iload_n 2, 1) := by decide +kernel
theorem dX10_go_47 : decode cX10_go 47 = .ok (.ireturn, 1) := by decide +kernel
theorem dX10_view_0 : decode cX10_view 0 = .ok (.aload_n 0, 1) := by decide +kernel
theorem dX10_view_1 : decode cX10_view 1 = .ok (.getfield 21, 3) := by decide +kernel
theorem dX10_view_4 : decode cX10_view 4 = .ok (.iload_n 1, 1) := by decide +kernel
theorem dX10_view_5 : decode cX10_view 5 = .ok (.invokevirtual 85, 3) := by decide +kernel
theorem dX10_view_8 : decode cX10_view 8 = .ok (.ifCond .ne 5, 3) := by decide +kernel
theorem dX10_view_11 : decode cX10_view 11 = .ok (.iconst (-1), 1) := by decide +kernel
theorem dX10_view_12 : decode cX10_view 12 = .ok (.ireturn, 1) := by decide +kernel
theorem dX10_view_13 : decode cX10_view 13 = .ok (.iload_n 2, 1) := by decide +kernel
theorem dX10_view_14 : decode cX10_view 14 = .ok (.ifCond .eq 11, 3) := by decide +kernel
theorem dX10_view_17 : decode cX10_view 17 = .ok (.iload_n 2, 1) := by decide +kernel
theorem dX10_view_18 : decode cX10_view 18 = .ok (.iconst 1, 1) := by decide +kernel
theorem dX10_view_19 : decode cX10_view 19 = .ok (.if_icmp .eq 6, 3) := by decide +kernel
theorem dX10_view_22 : decode cX10_view 22 = .ok (.bipush (-2), 2) := by decide +kernel
theorem dX10_view_24 : decode cX10_view 24 = .ok (.ireturn, 1) := by decide +kernel
theorem dX10_view_25 : decode cX10_view 25 = .ok (.aload_n 0, 1) := by decide +kernel
theorem dX10_view_26 : decode cX10_view 26 = .ok (.getfield 21, 3) := by decide +kernel
theorem dX10_view_29 : decode cX10_view 29 = .ok (.iload_n 1, 1) := by decide +kernel
theorem dX10_view_30 : decode cX10_view 30 = .ok (.invokevirtual 88, 3) := by decide +kernel
theorem dX10_view_33 : decode cX10_view 33 = .ok (.astore 4, 2) := by decide +kernel
theorem dX10_view_35 : decode cX10_view 35 = .ok (.iload_n 2, 1) := by decide +kernel
theorem dX10_view_36 : decode cX10_view 36 = .ok (.ifCond .ne 11, 3) := by decide +kernel
theorem dX10_view_39 : decode cX10_view 39 = .ok (.aload 4, 2) := by decide +kernel
theorem dX10_view_41 : decode cX10_view 41 = .ok (.getfield 139, 3) := by decide +kernel
theorem dX10_view_44 : decode cX10_view 44 = .ok (.goto 8, 3) := by decide +kernel
theorem dX10_view_47 : decode cX10_view 47 = .ok (.aload 4, 2) := by decide +kernel
theorem dX10_view_49 : decode cX10_view 49 = .ok (.getfield 142, 3) := by decide +kernel
theorem dX10_view_52 : decode cX10_view 52 = .ok (.astore 5, 2) := by decide +kernel
theorem dX10_view_54 : decode cX10_view 54 = .ok (.iload_n 3, 1) := by decide +kernel
theorem dX10_view_55 : decode cX10_view 55 = .ok (.iconst (-1), 1) := by decide +kernel
theorem dX10_view_56 : decode cX10_view 56 = .ok (.if_icmp .ne 11, 3) := by decide +kernel
theorem dX10_view_59 : decode cX10_view 59 = .ok (.aload 5, 2) := by decide +kernel
theorem dX10_view_61 : decode cX10_view 61 = .ok (.getfield 144, 3) := by decide +kernel
theorem dX10_view_64 : decode cX10_view 64 = .ok (.goto 9, 3) := by decide +kernel
theorem dX10_view_67 : decode cX10_view 67 = .ok (.aload 5, 2) := by decide +kernel
theorem dX10_view_69 : decode cX10_view 69 = .ok (.iload_n 3, 1) := by decide +kernel
theorem dX10_view_70 : decode cX10_view 70 = .ok (.invokevirtual 147, 3) := by decide +kernel
theorem dX10_view_73 : decode cX10_view 73 = .ok (.ireturn, 1) := by decide +kernel
theorem dX10_how_0 : decode cX10_how 0 = .ok (.aload_n 0, 1) := by decide +kernel
theorem dX10_how_1 : decode cX10_how 1 = .ok (.getfield 21, 3) := by decide +kernel
theorem dX10_how_4 : decode cX10_how 4 = .ok (.iload_n 1, 1) := by decide +kernel
theorem dX10_how_5 : decode cX10_how 5 = .ok (.invokevirtual 85, 3) := by decide +kernel
theorem dX10_how_8 : decode cX10_how 8 = .ok (.ifCond .eq 14, 3) := by decide +kernel
theorem dX10_how_11 : decode cX10_how 11 = .ok (.aload_n 0, 1) := by decide +kernel
theorem dX10_how_12 : decode cX10_how 12 = .ok (.getfield 21, 3) := by decide +kernel
theorem dX10_how_15 : decode cX10_how 15 = .ok (.iload_n 2, 1) := by decide +kernel
theorem dX10_how_16 : decode cX10_how 16 = .ok (.invokevirtual 85, 3) := by decide +kernel
theorem dX10_how_19 : decode cX10_how 19 = .ok (.ifCond .ne 5, 3) := by decide +kernel
theorem dX10_how_22 : decode cX10_how 22 = .ok (.iconst (-1), 1) := by decide +kernel
theorem dX10_how_23 : decode cX10_how 23 = .ok (.ireturn, 1) := by decide +kernel
theorem dX10_how_24 : decode cX10_how 24 = .ok (.aload_n 0, 1) := by decide +kernel
theorem dX10_how_25 : decode cX10_how 25 = .ok (.getfield 21, 3) := by decide +kernel
theorem dX10_how_28 : decode cX10_how 28 = .ok (.iload_n 1, 1) := by decide +kernel
theorem dX10_how_29 : decode cX10_how 29 = .ok (.invokevirtual 88, 3) := by decide +kernel
theorem dX10_how_32 : decode cX10_how 32 = .ok (.astore_n 3, 1) := by decide +kernel
theorem dX10_how_33 : decode cX10_how 33 = .ok (.aload_n 3, 1) := by decide +kernel
theorem dX10_how_34 : decode cX10_how 34 = .ok (.getfield 139, 3) := by decide +kernel
theorem dX10_how_37 : decode cX10_how 37 = .ok (.iload_n 2, 1) := by decide +kernel
theorem dX10_how_38 : decode cX10_how 38 = .ok (.invokevirtual 150, 3) := by decide +kernel
theorem dX10_how_41 : decode cX10_how 41 = .ok (.ifCond .eq 17, 3) := by decide +kernel
theorem dX10_how_44 : decode cX10_how 44 = .ok (.aload_n 3, 1) := by decide +kernel
theorem dX10_how_45 : decode cX10_how 45 = .ok (.iload_n 2, 1) := by decide +kernel
theorem dX10_how_46 : decode cX10_how 46 = .ok (.invokevirtual 153, 3) := by decide +kernel
theorem dX10_how_49 : decode cX10_how 49 = .ok (.ifCond .eq 7, 3) := by decide +kernel
theorem dX10_how_52 : decode cX10_how 52 = .ok (.iconst 2, 1) := by decide +kernel
theorem dX10_how_53 : decode cX10_how 53 = .ok (.goto 4, 3) := by decide +kernel
theorem dX10_how_56 : decode cX10_how 56 = .ok (.iconst 1, 1) := by decide +kernel
theorem dX10_how_57 : decode cX10_how 57 = .ok (.ireturn, 1) := by decide +kernel
theorem dX10_how_58 : decode cX10_how 58 = .ok (.aload_n 3, 1) := by decide +kernel
theorem dX10_how_59 : decode cX10_how 59 = .ok (.getfield 142, 3) := by decide +kernel
theorem dX10_how_62 : decode cX10_how 62 = .ok (.iload_n 2, 1) := by decide +kernel
theorem dX10_how_63 : decode cX10_how 63 = .ok (.invokevirtual 150, 3) := by decide +kernel
theorem dX10_how_66 : decode cX10_how 66 = .ok (.ifCond .eq 7, 3) := by decide +kernel
theorem dX10_how_69 : decode cX10_how 69 = .ok (.iconst 3, 1) := by decide +kernel
theorem dX10_how_70 : decode cX10_how 70 = .ok (.goto 4, 3) := by decide +kernel
theorem dX10_how_73 : decode cX10_how 73 = .ok (.iconst 0, 1) := by decide +kernel
theorem dX10_how_74 : decode cX10_how 74 = .ok (.ireturn, 1) := by decide +kernel
theorem dX10_heard_0 : decode cX10_heard 0 = .ok (.aload_n 0, 1) := by decide +kernel
theorem dX10_heard_1 : decode cX10_heard 1 = .ok (.getfield 21, 3) := by decide +kernel
theorem dX10_heard_4 : decode cX10_heard 4 = .ok (.iload_n 1, 1) := by decide +kernel
theorem dX10_heard_5 : decode cX10_heard 5 = .ok (.invokevirtual 85, 3) := by decide +kernel
theorem dX10_heard_8 : decode cX10_heard 8 = .ok (.ifCond .eq 14, 3) := by decide +kernel
theorem dX10_heard_11 : decode cX10_heard 11 = .ok (.aload_n 0, 1) := by decide +kernel
theorem dX10_heard_12 : decode cX10_heard 12 = .ok (.getfield 21, 3) := by decide +kernel
theorem dX10_heard_15 : decode cX10_heard 15 = .ok (.iload_n 2, 1) := by decide +kernel
theorem dX10_heard_16 : decode cX10_heard 16 = .ok (.invokevirtual 156, 3) := by decide +kernel
theorem dX10_heard_19 : decode cX10_heard 19 = .ok (.ifCond .ne 5, 3) := by decide +kernel
theorem dX10_heard_22 : decode cX10_heard 22 = .ok (.iconst (-1), 1) := by decide +kernel
theorem dX10_heard_23 : decode cX10_heard 23 = .ok (.ireturn, 1) := by decide +kernel
theorem dX10_heard_24 : decode cX10_heard 24 = .ok (.aload_n 0, 1) := by decide +kernel
theorem dX10_heard_25 : decode cX10_heard 25 = .ok (.getfield 21, 3) := by decide +kernel
theorem dX10_heard_28 : decode cX10_heard 28 = .ok (.iload_n 1, 1) := by decide +kernel
theorem dX10_heard_29 : decode cX10_heard 29 = .ok (.invokevirtual 88, 3) := by decide +kernel
theorem dX10_heard_32 : decode cX10_heard 32 = .ok (.iload_n 2, 1) := by decide +kernel
theorem dX10_heard_33 : decode cX10_heard 33 = .ok (.invokevirtual 159, 3) := by decide +kernel
theorem dX10_heard_36 : decode cX10_heard 36 = .ok (.ireturn, 1) := by decide +kernel
theorem dX10_missed_0 : decode cX10_missed 0 = .ok (.aload_n 0, 1) := by decide +kernel
theorem dX10_missed_1 : decode cX10_missed 1 = .ok (.getfield 21, 3) := by decide +kernel
theorem dX10_missed_4 : decode cX10_missed 4 = .ok (.iload_n 1, 1) := by decide +kernel
theorem dX10_missed_5 : decode cX10_missed 5 = .ok (.invokevirtual 85, 3) := by decide +kernel
theorem dX10_missed_8 : decode cX10_missed 8 = .ok (.ifCond .eq 14, 3) := by decide +kernel
theorem dX10_missed_11 : decode cX10_missed 11 = .ok (.aload_n 0, 1) := by decide +kernel
theorem dX10_missed_12 : decode cX10_missed 12 = .ok (.getfield 21, 3) := by decide +kernel
theorem dX10_missed_15 : decode cX10_missed 15 = .ok (.iload_n 2, 1) := by decide +kernel
theorem dX10_missed_16 : decode cX10_missed 16 = .ok (.invokevirtual 156, 3) := by decide +kernel
theorem dX10_missed_19 : decode cX10_missed 19 = .ok (.ifCond .ne 5, 3) := by decide +kernel
theorem dX10_missed_22 : decode cX10_missed 22 = .ok (.iconst (-1), 1) := by decide +kernel
theorem dX10_missed_23 : decode cX10_missed 23 = .ok (.ireturn, 1) := by decide +kernel
theorem dX10_missed_24 : decode cX10_missed 24 = .ok (.aload_n 0, 1) := by decide +kernel
theorem dX10_missed_25 : decode cX10_missed 25 = .ok (.getfield 21, 3) := by decide +kernel
theorem dX10_missed_28 : decode cX10_missed 28 = .ok (.iload_n 1, 1) := by decide +kernel
theorem dX10_missed_29 : decode cX10_missed 29 = .ok (.invokevirtual 88, 3) := by decide +kernel
theorem dX10_missed_32 : decode cX10_missed 32 = .ok (.iload_n 2, 1) := by decide +kernel
theorem dX10_missed_33 : decode cX10_missed 33 = .ok (.invokevirtual 162, 3) := by decide +kernel
theorem dX10_missed_36 : decode cX10_missed 36 = .ok (.getfield 166, 3) := by decide +kernel
theorem dX10_missed_39 : decode cX10_missed 39 = .ok (.getfield 144, 3) := by decide +kernel
theorem dX10_missed_42 : decode cX10_missed 42 = .ok (.ireturn, 1) := by decide +kernel
theorem dX10_about_0 : decode cX10_about 0 = .ok (.aload_n 0, 1) := by decide +kernel
theorem dX10_about_1 : decode cX10_about 1 = .ok (.getfield 21, 3) := by decide +kernel
theorem dX10_about_4 : decode cX10_about 4 = .ok (.iload_n 1, 1) := by decide +kernel
theorem dX10_about_5 : decode cX10_about 5 = .ok (.invokevirtual 85, 3) := by decide +kernel
theorem dX10_about_8 : decode cX10_about 8 = .ok (.ifCond .ne 5, 3) := by decide +kernel
theorem dX10_about_11 : decode cX10_about 11 = .ok (.iconst (-1), 1) := by decide +kernel
theorem dX10_about_12 : decode cX10_about 12 = .ok (.ireturn, 1) := by decide +kernel
theorem dX10_about_13 : decode cX10_about 13 = .ok (.aload_n 0, 1) := by decide +kernel
theorem dX10_about_14 : decode cX10_about 14 = .ok (.getfield 21, 3) := by decide +kernel
theorem dX10_about_17 : decode cX10_about 17 = .ok (.iload_n 1, 1) := by decide +kernel
theorem dX10_about_18 : decode cX10_about 18 = .ok (.invokevirtual 88, 3) := by decide +kernel
theorem dX10_about_21 : decode cX10_about 21 = .ok (.astore_n 3, 1) := by decide +kernel
theorem dX10_about_22 : decode cX10_about 22 = .ok (.iload_n 2, 1) := by decide +kernel
theorem dX10_about_23 : decode cX10_about 23 = .ok (.tableswitch 75 0 5 #[37, 50, 55, 60, 65, 70], 37) := by decide +kernel
theorem dX10_about_60 : decode cX10_about 60 = .ok (.aload_n 3, 1) := by decide +kernel
theorem dX10_about_61 : decode cX10_about 61 = .ok (.getfield 92, 3) := by decide +kernel
theorem dX10_about_64 : decode cX10_about 64 = .ok (.ifCond .eq 7, 3) := by decide +kernel
theorem dX10_about_67 : decode cX10_about 67 = .ok (.iconst 1, 1) := by decide +kernel
theorem dX10_about_68 : decode cX10_about 68 = .ok (.goto 4, 3) := by decide +kernel
theorem dX10_about_71 : decode cX10_about 71 = .ok (.iconst 0, 1) := by decide +kernel
theorem dX10_about_72 : decode cX10_about 72 = .ok (.ireturn, 1) := by decide +kernel
theorem dX10_about_73 : decode cX10_about 73 = .ok (.aload_n 3, 1) := by decide +kernel
theorem dX10_about_74 : decode cX10_about 74 = .ok (.getfield 171, 3) := by decide +kernel
theorem dX10_about_77 : decode cX10_about 77 = .ok (.ireturn, 1) := by decide +kernel
theorem dX10_about_78 : decode cX10_about 78 = .ok (.aload_n 3, 1) := by decide +kernel
theorem dX10_about_79 : decode cX10_about 79 = .ok (.getfield 174, 3) := by decide +kernel
theorem dX10_about_82 : decode cX10_about 82 = .ok (.ireturn, 1) := by decide +kernel
theorem dX10_about_83 : decode cX10_about 83 = .ok (.aload_n 3, 1) := by decide +kernel
theorem dX10_about_84 : decode cX10_about 84 = .ok (.invokevirtual 177, 3) := by decide +kernel
theorem dX10_about_87 : decode cX10_about 87 = .ok (.ireturn, 1) := by decide +kernel
theorem dX10_about_88 : decode cX10_about 88 = .ok (.aload_n 3, 1) := by decide +kernel
theorem dX10_about_89 : decode cX10_about 89 = .ok (.invokevirtual 180, 3) := by decide +kernel
theorem dX10_about_92 : decode cX10_about 92 = .ok (.ireturn, 1) := by decide +kernel
theorem dX10_about_93 : decode cX10_about 93 = .ok (.aload_n 3, 1) := by decide +kernel
theorem dX10_about_94 : decode cX10_about 94 = .ok (.getfield 183, 3) := by decide +kernel
theorem dX10_about_97 : decode cX10_about 97 = .ok (.ireturn, 1) := by decide +kernel
theorem dX10_about_98 : decode cX10_about 98 = .ok (.bipush (-2), 2) := by decide +kernel
theorem dX10_about_100 : decode cX10_about 100 = .ok (.ireturn, 1) := by decide +kernel
theorem dX10_letter_0 : decode cX10_letter 0 = .ok (.aload_n 0, 1) := by decide +kernel
theorem dX10_letter_1 : decode cX10_letter 1 = .ok (.getfield 21, 3) := by decide +kernel
theorem dX10_letter_4 : decode cX10_letter 4 = .ok (.getfield 102, 3) := by decide +kernel
theorem dX10_letter_7 : decode cX10_letter 7 = .ok (.iload_n 1, 1) := by decide +kernel
theorem dX10_letter_8 : decode cX10_letter 8 = .ok (.invokevirtual 130, 3) := by decide +kernel
theorem dX10_letter_11 : decode cX10_letter 11 = .ok (.ifCond .ne 5, 3) := by decide +kernel
theorem dX10_letter_14 : decode cX10_letter 14 = .ok (.iconst (-1), 1) := by decide +kernel
theorem dX10_letter_15 : decode cX10_letter 15 = .ok (.ireturn, 1) := by decide +kernel
theorem dX10_letter_16 : decode cX10_letter 16 = .ok (.aload_n 0, 1) := by decide +kernel
theorem dX10_letter_17 : decode cX10_letter 17 = .ok (.getfield 21, 3) := by decide +kernel
theorem dX10_letter_20 : decode cX10_letter 20 = .ok (.getfield 102, 3) := by decide +kernel
theorem dX10_letter_23 : decode cX10_letter 23 = .ok (.iload_n 1, 1) := by decide +kernel
theorem dX10_letter_24 : decode cX10_letter 24 = .ok (.invokevirtual 186, 3) := by decide +kernel
theorem dX10_letter_27 : decode cX10_letter 27 = .ok (.astore_n 3, 1) := by decide +kernel
theorem dX10_letter_28 : decode cX10_letter 28 = .ok (.iload_n 2, 1) := by decide +kernel
theorem dX10_letter_29 : decode cX10_letter 29 = .ok (.tableswitch 72 0 5 #[39, 44, 49, 54, 59, 64], 39) := by decide +kernel
theorem dX10_letter_68 : decode cX10_letter 68 = .ok (.aload_n 3, 1) := by decide +kernel
theorem dX10_letter_69 : decode cX10_letter 69 = .ok (.getfield 189, 3) := by decide +kernel
theorem dX10_letter_72 : decode cX10_letter 72 = .ok (.ireturn, 1) := by decide +kernel
theorem dX10_letter_73 : decode cX10_letter 73 = .ok (.aload_n 3, 1) := by decide +kernel
theorem dX10_letter_74 : decode cX10_letter 74 = .ok (.getfield 194, 3) := by decide +kernel
theorem dX10_letter_77 : decode cX10_letter 77 = .ok (.ireturn, 1) := by decide +kernel
theorem dX10_letter_78 : decode cX10_letter 78 = .ok (.aload_n 3, 1) := by decide +kernel
theorem dX10_letter_79 : decode cX10_letter 79 = .ok (.getfield 197, 3) := by decide +kernel
theorem dX10_letter_82 : decode cX10_letter 82 = .ok (.ireturn, 1) := by decide +kernel
theorem dX10_letter_83 : decode cX10_letter 83 = .ok (.aload_n 3, 1) := by decide +kernel
theorem dX10_letter_84 : decode cX10_letter 84 = .ok (.getfield 200, 3) := by decide +kernel
theorem dX10_letter_87 : decode cX10_letter 87 = .ok (.ireturn, 1) := by decide +kernel
theorem dX10_letter_88 : decode cX10_letter 88 = .ok (.aload_n 3, 1) := by decide +kernel
theorem dX10_letter_89 : decode cX10_letter 89 = .ok (.getfield 203, 3) := by decide +kernel
theorem dX10_letter_92 : decode cX10_letter 92 = .ok (.ireturn, 1) := by decide +kernel
theorem dX10_letter_93 : decode cX10_letter 93 = .ok (.aload_n 3, 1) := by decide +kernel
theorem dX10_letter_94 : decode cX10_letter 94 = .ok (.getfield 206, 3) := by decide +kernel
theorem dX10_letter_97 : decode cX10_letter 97 = .ok (.getfield 144, 3) := by decide +kernel
theorem dX10_letter_100 : decode cX10_letter 100 = .ok (.ireturn, 1) := by decide +kernel
theorem dX10_letter_101 : decode cX10_letter 101 = .ok (.iload_n 2, 1) := by decide +kernel
theorem dX10_letter_102 : decode cX10_letter 102 = .ok (.bipush 10, 2) := by decide +kernel
theorem dX10_letter_104 : decode cX10_letter 104 = .ok (.if_icmp .ge 8, 3) := by decide +kernel
theorem dX10_letter_107 : decode cX10_letter 107 = .ok (.bipush (-2), 2) := by decide +kernel
theorem dX10_letter_109 : decode cX10_letter 109 = .ok (.goto 14, 3) := by decide +kernel
theorem dX10_letter_112 : decode cX10_letter 112 = .ok (.aload_n 3, 1) := by decide +kernel
theorem dX10_letter_113 : decode cX10_letter 113 = .ok (.getfield 206, 3) := by decide +kernel
theorem dX10_letter_116 : decode cX10_letter 116 = .ok (.iload_n 2, 1) := by decide +kernel
theorem dX10_letter_117 : decode cX10_letter 117 = .ok (.bipush 10, 2) := by decide +kernel
theorem dX10_letter_119 : decode cX10_letter 119 = .ok (.isub, 1) := by decide +kernel
theorem dX10_letter_120 : decode cX10_letter 120 = .ok (.invokevirtual 147, 3) := by decide +kernel
theorem dX10_letter_123 : decode cX10_letter 123 = .ok (.ireturn, 1) := by decide +kernel
theorem dX10_even_0 : decode cX10_even 0 = .ok (.aload_n 0, 1) := by decide +kernel
theorem dX10_even_1 : decode cX10_even 1 = .ok (.getfield 21, 3) := by decide +kernel
theorem dX10_even_4 : decode cX10_even 4 = .ok (.invokevirtual 209, 3) := by decide +kernel
theorem dX10_even_7 : decode cX10_even 7 = .ok (.ifCond .eq 7, 3) := by decide +kernel
theorem dX10_even_10 : decode cX10_even 10 = .ok (.iconst 1, 1) := by decide +kernel
theorem dX10_even_11 : decode cX10_even 11 = .ok (.goto 4, 3) := by decide +kernel
theorem dX10_even_14 : decode cX10_even 14 = .ok (.iconst 0, 1) := by decide +kernel
theorem dX10_even_15 : decode cX10_even 15 = .ok (.ireturn, 1) := by decide +kernel
theorem dX10_reach_0 : decode cX10_reach 0 = .ok (.aload_n 0, 1) := by decide +kernel
theorem dX10_reach_1 : decode cX10_reach 1 = .ok (.iload_n 1, 1) := by decide +kernel
theorem dX10_reach_2 : decode cX10_reach 2 = .ok (.invokevirtual 109, 3) := by decide +kernel
theorem dX10_reach_5 : decode cX10_reach 5 = .ok (.istore_n 2, 1) := by decide +kernel
theorem dX10_reach_6 : decode cX10_reach 6 = .ok (.iload_n 2, 1) := by decide +kernel
theorem dX10_reach_7 : decode cX10_reach 7 = .ok (.ifCond .eq 7, 3) := by decide +kernel
theorem dX10_reach_10 : decode cX10_reach 10 = .ok (.iload_n 2, 1) := by decide +kernel
theorem dX10_reach_11 : decode cX10_reach 11 = .ok (.goto 11, 3) := by decide +kernel
theorem dX10_reach_14 : decode cX10_reach 14 = .ok (.aload_n 0, 1) := by decide +kernel
theorem dX10_reach_15 : decode cX10_reach 15 = .ok (.getfield 21, 3) := by decide +kernel
theorem dX10_reach_18 : decode cX10_reach 18 = .ok (.iload_n 1, 1) := by decide +kernel
theorem dX10_reach_19 : decode cX10_reach 19 = .ok (.invokevirtual 213, 3) := by decide +kernel
theorem dX10_reach_22 : decode cX10_reach 22 = .ok (.ireturn, 1) := by decide +kernel
theorem dX10_came_0 : decode cX10_came 0 = .ok (.iload_n 1, 1) := by decide +kernel
theorem dX10_came_1 : decode cX10_came 1 = .ok (.ifCond .lt 9, 3) := by decide +kernel
theorem dX10_came_4 : decode cX10_came 4 = .ok (.iload_n 1, 1) := by decide +kernel
theorem dX10_came_5 : decode cX10_came 5 = .ok (.bipush 12, 2) := by decide +kernel
theorem dX10_came_7 : decode cX10_came 7 = .ok (.if_icmp .le 6, 3) := by decide +kernel
theorem dX10_came_10 : decode cX10_came 10 = .ok (.bipush (-2), 2) := by decide +kernel
theorem dX10_came_12 : decode cX10_came 12 = .ok (.ireturn, 1) := by decide +kernel
theorem dX10_came_13 : decode cX10_came 13 = .ok (.aload_n 0, 1) := by decide +kernel
theorem dX10_came_14 : decode cX10_came 14 = .ok (.getfield 21, 3) := by decide +kernel
theorem dX10_came_17 : decode cX10_came 17 = .ok (.getfield 216, 3) := by decide +kernel
theorem dX10_came_20 : decode cX10_came 20 = .ok (.iload_n 1, 1) := by decide +kernel
theorem dX10_came_21 : decode cX10_came 21 = .ok (.iaload, 1) := by decide +kernel
theorem dX10_came_22 : decode cX10_came 22 = .ok (.ireturn, 1) := by decide +kernel
theorem dX10_spread_0 : decode cX10_spread 0 = .ok (.aload_n 0, 1) := by decide +kernel
theorem dX10_spread_1 : decode cX10_spread 1 = .ok (.getfield 21, 3) := by decide +kernel
theorem dX10_spread_4 : decode cX10_spread 4 = .ok (.iload_n 1, 1) := by decide +kernel
theorem dX10_spread_5 : decode cX10_spread 5 = .ok (.invokevirtual 156, 3) := by decide +kernel
theorem dX10_spread_8 : decode cX10_spread 8 = .ok (.ifCond .eq 14, 3) := by decide +kernel
theorem dX10_spread_11 : decode cX10_spread 11 = .ok (.aload_n 0, 1) := by decide +kernel
theorem dX10_spread_12 : decode cX10_spread 12 = .ok (.getfield 21, 3) := by decide +kernel
theorem dX10_spread_15 : decode cX10_spread 15 = .ok (.iload_n 1, 1) := by decide +kernel
theorem dX10_spread_16 : decode cX10_spread 16 = .ok (.invokevirtual 220, 3) := by decide +kernel
theorem dX10_spread_19 : decode cX10_spread 19 = .ok (.goto 4, 3) := by decide +kernel
theorem dX10_spread_22 : decode cX10_spread 22 = .ok (.iconst (-1), 1) := by decide +kernel
theorem dX10_spread_23 : decode cX10_spread 23 = .ok (.ireturn, 1) := by decide +kernel
theorem dX10_told_0 : decode cX10_told 0 = .ok (.iload_n 1, 1) := by decide +kernel
theorem dX10_told_1 : decode cX10_told 1 = .ok (.tableswitch 117 0 7 #[47, 55, 63, 74, 85, 93, 101, 109], 47) := by decide +kernel
theorem dX10_told_48 : decode cX10_told 48 = .ok (.aload_n 0, 1) := by decide +kernel
theorem dX10_told_49 : decode cX10_told 49 = .ok (.getfield 21, 3) := by decide +kernel
theorem dX10_told_52 : decode cX10_told 52 = .ok (.getfield 49, 3) := by decide +kernel
theorem dX10_told_55 : decode cX10_told 55 = .ok (.ireturn, 1) := by decide +kernel
theorem dX10_told_56 : decode cX10_told 56 = .ok (.aload_n 0, 1) := by decide +kernel
theorem dX10_told_57 : decode cX10_told 57 = .ok (.getfield 21, 3) := by decide +kernel
theorem dX10_told_60 : decode cX10_told 60 = .ok (.invokevirtual 223, 3) := by decide +kernel
theorem dX10_told_63 : decode cX10_told 63 = .ok (.ireturn, 1) := by decide +kernel
theorem dX10_told_64 : decode cX10_told 64 = .ok (.aload_n 0, 1) := by decide +kernel
theorem dX10_told_65 : decode cX10_told 65 = .ok (.getfield 21, 3) := by decide +kernel
theorem dX10_told_68 : decode cX10_told 68 = .ok (.getfield 102, 3) := by decide +kernel
theorem dX10_told_71 : decode cX10_told 71 = .ok (.getfield 106, 3) := by decide +kernel
theorem dX10_told_74 : decode cX10_told 74 = .ok (.ireturn, 1) := by decide +kernel
theorem dX10_told_75 : decode cX10_told 75 = .ok (.aload_n 0, 1) := by decide +kernel
theorem dX10_told_76 : decode cX10_told 76 = .ok (.getfield 21, 3) := by decide +kernel
theorem dX10_told_79 : decode cX10_told 79 = .ok (.getfield 102, 3) := by decide +kernel
theorem dX10_told_82 : decode cX10_told 82 = .ok (.getfield 226, 3) := by decide +kernel
theorem dX10_told_85 : decode cX10_told 85 = .ok (.ireturn, 1) := by decide +kernel
theorem dX10_told_86 : decode cX10_told 86 = .ok (.aload_n 0, 1) := by decide +kernel
theorem dX10_told_87 : decode cX10_told 87 = .ok (.getfield 21, 3) := by decide +kernel
theorem dX10_told_90 : decode cX10_told 90 = .ok (.getfield 120, 3) := by decide +kernel
theorem dX10_told_93 : decode cX10_told 93 = .ok (.ireturn, 1) := by decide +kernel
theorem dX10_told_94 : decode cX10_told 94 = .ok (.aload_n 0, 1) := by decide +kernel
theorem dX10_told_95 : decode cX10_told 95 = .ok (.getfield 21, 3) := by decide +kernel
theorem dX10_told_98 : decode cX10_told 98 = .ok (.getfield 229, 3) := by decide +kernel
theorem dX10_told_101 : decode cX10_told 101 = .ok (.ireturn, 1) := by decide +kernel
theorem dX10_told_102 : decode cX10_told 102 = .ok (.aload_n 0, 1) := by decide +kernel
theorem dX10_told_103 : decode cX10_told 103 = .ok (.getfield 10, 3) := by decide +kernel
theorem dX10_told_106 : decode cX10_told 106 = .ok (.getfield 78, 3) := by decide +kernel
theorem dX10_told_109 : decode cX10_told 109 = .ok (.ireturn, 1) := by decide +kernel
theorem dX10_told_110 : decode cX10_told 110 = .ok (.aload_n 0, 1) := by decide +kernel
theorem dX10_told_111 : decode cX10_told 111 = .ok (.getfield 21, 3) := by decide +kernel
theorem dX10_told_114 : decode cX10_told 114 = .ok (.getfield 232, 3) := by decide +kernel
theorem dX10_told_117 : decode cX10_told 117 = .ok (.ireturn, 1) := by decide +kernel
theorem dX10_told_118 : decode cX10_told 118 = .ok (.bipush (-2), 2) := by decide +kernel
theorem dX10_told_120 : decode cX10_told 120 = .ok (.ireturn, 1) := by decide +kernel
theorem dX10_keep_0 : decode cX10_keep 0 = .ok (.iload_n 1, 1) := by decide +kernel
theorem dX10_keep_1 : decode cX10_keep 1 = .ok (.invokestatic 235, 3) := by decide +kernel
theorem dX10_keep_4 : decode cX10_keep 4 = .ok (.ifCond .ne 5, 3) := by decide +kernel
theorem dX10_keep_7 : decode cX10_keep 7 = .ok (.iconst (-1), 1) := by decide +kernel
theorem dX10_keep_8 : decode cX10_keep 8 = .ok (.ireturn, 1) := by decide +kernel
theorem dX10_keep_9 : decode cX10_keep 9 = .ok (.aload_n 0, 1) := by decide +kernel
theorem dX10_keep_10 : decode cX10_keep 10 = .ok (.getfield 41, 3) := by decide +kernel
theorem dX10_keep_13 : decode cX10_keep 13 = .ok (.iload_n 1, 1) := by decide +kernel
theorem dX10_keep_14 : decode cX10_keep 14 = .ok (.aaload, 1) := by decide +kernel
theorem dX10_keep_15 : decode cX10_keep 15 = .ok (.aload_n 0, 1) := by decide +kernel
theorem dX10_keep_16 : decode cX10_keep 16 = .ok (.getfield 21, 3) := by decide +kernel
theorem dX10_keep_19 : decode cX10_keep 19 = .ok (.invokevirtual 238, 3) := by decide +kernel
theorem dX10_keep_22 : decode cX10_keep 22 = .ok (.aload_n 0, 1) := by decide +kernel
theorem dX10_keep_23 : decode cX10_keep 23 = .ok (.getfield 45, 3) := by decide +kernel
theorem dX10_keep_26 : decode cX10_keep 26 = .ok (.iload_n 1, 1) := by decide +kernel
theorem dX10_keep_27 : decode cX10_keep 27 = .ok (.iconst 1, 1) := by decide +kernel
theorem dX10_keep_28 : decode cX10_keep 28 = .ok (.bastore, 1) := by decide +kernel
theorem dX10_keep_29 : decode cX10_keep 29 = .ok (.iconst 1, 1) := by decide +kernel
theorem dX10_keep_30 : decode cX10_keep 30 = .ok (.ireturn, 1) := by decide +kernel
theorem dX10_back_0 : decode cX10_back 0 = .ok (.iload_n 1, 1) := by decide +kernel
theorem dX10_back_1 : decode cX10_back 1 = .ok (.invokestatic 235, 3) := by decide +kernel
theorem dX10_back_4 : decode cX10_back 4 = .ok (.ifCond .eq 12, 3) := by decide +kernel
theorem dX10_back_7 : decode cX10_back 7 = .ok (.aload_n 0, 1) := by decide +kernel
theorem dX10_back_8 : decode cX10_back 8 = .ok (.getfield 45, 3) := by decide +kernel
theorem dX10_back_11 : decode cX10_back 11 = .ok (.iload_n 1, 1) := by decide +kernel
theorem dX10_back_12 : decode cX10_back 12 = .ok (.baload, 1) := by decide +kernel
theorem dX10_back_13 : decode cX10_back 13 = .ok (.ifCond .ne 5, 3) := by decide +kernel
theorem dX10_back_16 : decode cX10_back 16 = .ok (.iconst (-1), 1) := by decide +kernel
theorem dX10_back_17 : decode cX10_back 17 = .ok (.ireturn, 1) := by decide +kernel
theorem dX10_back_18 : decode cX10_back 18 = .ok (.aload_n 0, 1) := by decide +kernel
theorem dX10_back_19 : decode cX10_back 19 = .ok (.getfield 21, 3) := by decide +kernel
theorem dX10_back_22 : decode cX10_back 22 = .ok (.aload_n 0, 1) := by decide +kernel
theorem dX10_back_23 : decode cX10_back 23 = .ok (.getfield 41, 3) := by decide +kernel
theorem dX10_back_26 : decode cX10_back 26 = .ok (.iload_n 1, 1) := by decide +kernel
theorem dX10_back_27 : decode cX10_back 27 = .ok (.aaload, 1) := by decide +kernel
theorem dX10_back_28 : decode cX10_back 28 = .ok (.invokevirtual 238, 3) := by decide +kernel
theorem dX10_back_31 : decode cX10_back 31 = .ok (.aload_n 0, 1) := by decide +kernel
theorem dX10_back_32 : decode cX10_back 32 = .ok (.getfield 21, 3) := by decide +kernel
theorem dX10_back_35 : decode cX10_back 35 = .ok (.getfield 49, 3) := by decide +kernel
theorem dX10_back_38 : decode cX10_back 38 = .ok (.ireturn, 1) := by decide +kernel
theorem dX10_differs_0 : decode cX10_differs 0 = .ok (.iload_n 1, 1) := by decide +kernel
theorem dX10_differs_1 : decode cX10_differs 1 = .ok (.invokestatic 235, 3) := by decide +kernel
theorem dX10_differs_4 : decode cX10_differs 4 = .ok (.ifCond .eq 12, 3) := by decide +kernel
theorem dX10_differs_7 : decode cX10_differs 7 = .ok (.aload_n 0, 1) := by decide +kernel
theorem dX10_differs_8 : decode cX10_differs 8 = .ok (.getfield 45, 3) := by decide +kernel
theorem dX10_differs_11 : decode cX10_differs 11 = .ok (.iload_n 1, 1) := by decide +kernel
theorem dX10_differs_12 : decode cX10_differs 12 = .ok (.baload, 1) := by decide +kernel
theorem dX10_differs_13 : decode cX10_differs 13 = .ok (.ifCond .ne 5, 3) := by decide +kernel
theorem dX10_differs_16 : decode cX10_differs 16 = .ok (.iconst (-1), 1) := by decide +kernel
theorem dX10_differs_17 : decode cX10_differs 17 = .ok (.ireturn, 1) := by decide +kernel
theorem dX10_differs_18 : decode cX10_differs 18 = .ok (.aload_n 0, 1) := by decide +kernel
theorem dX10_differs_19 : decode cX10_differs 19 = .ok (.getfield 21, 3) := by decide +kernel
theorem dX10_differs_22 : decode cX10_differs 22 = .ok (.aload_n 0, 1) := by decide +kernel
theorem dX10_differs_23 : decode cX10_differs 23 = .ok (.getfield 41, 3) := by decide +kernel
theorem dX10_differs_26 : decode cX10_differs 26 = .ok (.iload_n 1, 1) := by decide +kernel
theorem dX10_differs_27 : decode cX10_differs 27 = .ok (.aaload, 1) := by decide +kernel
theorem dX10_differs_28 : decode cX10_differs 28 = .ok (.invokevirtual 241, 3) := by decide +kernel
theorem dX10_differs_31 : decode cX10_differs 31 = .ok (.ireturn, 1) := by decide +kernel
theorem dX10_isPlace_0 : decode cX10_isPlace 0 = .ok (.iload_n 0, 1) := by decide +kernel
theorem dX10_isPlace_1 : decode cX10_isPlace 1 = .ok (.ifCond .lt 12, 3) := by decide +kernel
theorem dX10_isPlace_4 : decode cX10_isPlace 4 = .ok (.iload_n 0, 1) := by decide +kernel
theorem dX10_isPlace_5 : decode cX10_isPlace 5 = .ok (.iconst 2, 1) := by decide +kernel
theorem dX10_isPlace_6 : decode cX10_isPlace 6 = .ok (.if_icmp .ge 7, 3) := by decide +kernel
theorem dX10_isPlace_9 : decode cX10_isPlace 9 = .ok (.iconst 1, 1) := by decide +kernel
theorem dX10_isPlace_10 : decode cX10_isPlace 10 = .ok (.goto 4, 3) := by decide +kernel
theorem dX10_isPlace_13 : decode cX10_isPlace 13 = .ok (.iconst 0, 1) := by decide +kernel
theorem dX10_isPlace_14 : decode cX10_isPlace 14 = .ok (.ireturn, 1) := by decide +kernel
theorem dX10_refusedActor_0 : decode cX10_refusedActor 0 = .ok (.aload_n 0, 1) := by decide +kernel
theorem dX10_refusedActor_1 : decode cX10_refusedActor 1 = .ok (.getfield 21, 3) := by decide +kernel
theorem dX10_refusedActor_4 : decode cX10_refusedActor 4 = .ok (.iload_n 1, 1) := by decide +kernel
theorem dX10_refusedActor_5 : decode cX10_refusedActor 5 = .ok (.invokevirtual 85, 3) := by decide +kernel
theorem dX10_refusedActor_8 : decode cX10_refusedActor 8 = .ok (.ifCond .ne 5, 3) := by decide +kernel
theorem dX10_refusedActor_11 : decode cX10_refusedActor 11 = .ok (.iconst (-1), 1) := by decide +kernel
theorem dX10_refusedActor_12 : decode cX10_refusedActor 12 = .ok (.ireturn, 1) := by decide +kernel
theorem dX10_refusedActor_13 : decode cX10_refusedActor 13 = .ok (.aload_n 0, 1) := by decide +kernel
theorem dX10_refusedActor_14 : decode cX10_refusedActor 14 = .ok (.getfield 21, 3) := by decide +kernel
theorem dX10_refusedActor_17 : decode cX10_refusedActor 17 = .ok (.iload_n 1, 1) := by decide +kernel
theorem dX10_refusedActor_18 : decode cX10_refusedActor 18 = .ok (.invokevirtual 88, 3) := by decide +kernel
theorem dX10_refusedActor_21 : decode cX10_refusedActor 21 = .ok (.getfield 92, 3) := by decide +kernel
theorem dX10_refusedActor_24 : decode cX10_refusedActor 24 = .ok (.ifCond .eq 7, 3) := by decide +kernel
theorem dX10_refusedActor_27 : decode cX10_refusedActor 27 = .ok (.iconst 0, 1) := by decide +kernel
theorem dX10_refusedActor_28 : decode cX10_refusedActor 28 = .ok (.goto 5, 3) := by decide +kernel
theorem dX10_refusedActor_31 : decode cX10_refusedActor 31 = .ok (.bipush (-3), 2) := by decide +kernel
theorem dX10_refusedActor_33 : decode cX10_refusedActor 33 = .ok (.ireturn, 1) := by decide +kernel
theorem dX10_come_0 : decode cX10_come 0 = .ok (.aload_n 0, 1) := by decide +kernel
theorem dX10_come_1 : decode cX10_come 1 = .ok (.getfield 21, 3) := by decide +kernel
theorem dX10_come_4 : decode cX10_come 4 = .ok (.iload_n 1, 1) := by decide +kernel
theorem dX10_come_5 : decode cX10_come 5 = .ok (.invokevirtual 245, 3) := by decide +kernel
theorem dX10_come_8 : decode cX10_come 8 = .ok (.astore_n 2, 1) := by decide +kernel
theorem dX10_come_9 : decode cX10_come 9 = .ok (.aload_n 0, 1) := by decide +kernel
theorem dX10_come_10 : decode cX10_come 10 = .ok (.getfield 21, 3) := by decide +kernel
theorem dX10_come_13 : decode cX10_come 13 = .ok (.aload_n 2, 1) := by decide +kernel
theorem dX10_come_14 : decode cX10_come 14 = .ok (.getfield 194, 3) := by decide +kernel
theorem dX10_come_17 : decode cX10_come 17 = .ok (.invokevirtual 88, 3) := by decide +kernel
theorem dX10_come_20 : decode cX10_come 20 = .ok (.astore_n 3, 1) := by decide +kernel
theorem dX10_come_21 : decode cX10_come 21 = .ok (.aload_n 2, 1) := by decide +kernel
theorem dX10_come_22 : decode cX10_come 22 = .ok (.getfield 197, 3) := by decide +kernel
theorem dX10_come_25 : decode cX10_come 25 = .ok (.tableswitch 272 1 12 #[63, 78, 101, 116, 131, 150, 165, 177, 192, 215, 234, 257], 63) := by decide +kernel
theorem dX10_come_88 : decode cX10_come 88 = .ok (.aload_n 0, 1) := by decide +kernel
theorem dX10_come_89 : decode cX10_come 89 = .ok (.getfield 30, 3) := by decide +kernel
theorem dX10_come_92 : decode cX10_come 92 = .ok (.aload_n 3, 1) := by decide +kernel
theorem dX10_come_93 : decode cX10_come 93 = .ok (.aload_n 2, 1) := by decide +kernel
theorem dX10_come_94 : decode cX10_come 94 = .ok (.getfield 189, 3) := by decide +kernel
theorem dX10_come_97 : decode cX10_come 97 = .ok (.invokevirtual 248, 3) := by decide +kernel
theorem dX10_come_100 : decode cX10_come 100 = .ok (.goto 197, 3) := by decide +kernel
theorem dX10_come_103 : decode cX10_come 103 = .ok (.aload_n 0, 1) := by decide +kernel
theorem dX10_come_104 : decode cX10_come 104 = .ok (.getfield 30, 3) := by decide +kernel
theorem dX10_come_107 : decode cX10_come 107 = .ok (.aload_n 3, 1) := by decide +kernel
theorem dX10_come_108 : decode cX10_come 108 = .ok (.aload_n 2, 1) := by decide +kernel
theorem dX10_come_109 : decode cX10_come 109 = .ok (.getfield 189, 3) := by decide +kernel
theorem dX10_come_112 : decode cX10_come 112 = .ok (.aload_n 2, 1) := by decide +kernel
theorem dX10_come_113 : decode cX10_come 113 = .ok (.getfield 200, 3) := by decide +kernel
theorem dX10_come_116 : decode cX10_come 116 = .ok (.aload_n 2, 1) := by decide +kernel
theorem dX10_come_117 : decode cX10_come 117 = .ok (.getfield 203, 3) := by decide +kernel
theorem dX10_come_120 : decode cX10_come 120 = .ok (.invokevirtual 252, 3) := by decide +kernel
theorem dX10_come_123 : decode cX10_come 123 = .ok (.goto 174, 3) := by decide +kernel
theorem dX10_come_126 : decode cX10_come 126 = .ok (.aload_n 0, 1) := by decide +kernel
theorem dX10_come_127 : decode cX10_come 127 = .ok (.getfield 30, 3) := by decide +kernel
theorem dX10_come_130 : decode cX10_come 130 = .ok (.aload_n 3, 1) := by decide +kernel
theorem dX10_come_131 : decode cX10_come 131 = .ok (.aload_n 2, 1) := by decide +kernel
theorem dX10_come_132 : decode cX10_come 132 = .ok (.getfield 189, 3) := by decide +kernel
theorem dX10_come_135 : decode cX10_come 135 = .ok (.invokevirtual 255, 3) := by decide +kernel
theorem dX10_come_138 : decode cX10_come 138 = .ok (.goto 159, 3) := by decide +kernel
theorem dX10_come_141 : decode cX10_come 141 = .ok (.aload_n 0, 1) := by decide +kernel
theorem dX10_come_142 : decode cX10_come 142 = .ok (.getfield 30, 3) := by decide +kernel
theorem dX10_come_145 : decode cX10_come 145 = .ok (.aload_n 3, 1) := by decide +kernel
theorem dX10_come_146 : decode cX10_come 146 = .ok (.aload_n 2, 1) := by decide +kernel
theorem dX10_come_147 : decode cX10_come 147 = .ok (.getfield 189, 3) := by decide +kernel
theorem dX10_come_150 : decode cX10_come 150 = .ok (.invokevirtual 258, 3) := by decide +kernel
theorem dX10_come_153 : decode cX10_come 153 = .ok (.goto 144, 3) := by decide +kernel
theorem dX10_come_156 : decode cX10_come 156 = .ok (.aload_n 0, 1) := by decide +kernel
theorem dX10_come_157 : decode cX10_come 157 = .ok (.getfield 30, 3) := by decide +kernel
theorem dX10_come_160 : decode cX10_come 160 = .ok (.aload_n 3, 1) := by decide +kernel
theorem dX10_come_161 : decode cX10_come 161 = .ok (.aload_n 2, 1) := by decide +kernel
theorem dX10_come_162 : decode cX10_come 162 = .ok (.getfield 189, 3) := by decide +kernel
theorem dX10_come_165 : decode cX10_come 165 = .ok (.aload_n 2, 1) := by decide +kernel
theorem dX10_come_166 : decode cX10_come 166 = .ok (.getfield 200, 3) := by decide +kernel
theorem dX10_come_169 : decode cX10_come 169 = .ok (.invokevirtual 261, 3) := by decide +kernel
theorem dX10_come_172 : decode cX10_come 172 = .ok (.goto 125, 3) := by decide +kernel
theorem dX10_come_175 : decode cX10_come 175 = .ok (.aload_n 0, 1) := by decide +kernel
theorem dX10_come_176 : decode cX10_come 176 = .ok (.getfield 30, 3) := by decide +kernel
theorem dX10_come_179 : decode cX10_come 179 = .ok (.aload_n 3, 1) := by decide +kernel
theorem dX10_come_180 : decode cX10_come 180 = .ok (.aload_n 2, 1) := by decide +kernel
theorem dX10_come_181 : decode cX10_come 181 = .ok (.getfield 189, 3) := by decide +kernel
theorem dX10_come_184 : decode cX10_come 184 = .ok (.invokevirtual 265, 3) := by decide +kernel
theorem dX10_come_187 : decode cX10_come 187 = .ok (.goto 110, 3) := by decide +kernel
theorem dX10_come_190 : decode cX10_come 190 = .ok (.aload_n 0, 1) := by decide +kernel
theorem dX10_come_191 : decode cX10_come 191 = .ok (.getfield 30, 3) := by decide +kernel
theorem dX10_come_194 : decode cX10_come 194 = .ok (.aload_n 3, 1) := by decide +kernel
theorem dX10_come_195 : decode cX10_come 195 = .ok (.aload_n 2, 1) := by decide +kernel
theorem dX10_come_196 : decode cX10_come 196 = .ok (.invokevirtual 268, 3) := by decide +kernel
theorem dX10_come_199 : decode cX10_come 199 = .ok (.goto 98, 3) := by decide +kernel
theorem dX10_come_202 : decode cX10_come 202 = .ok (.aload_n 0, 1) := by decide +kernel
theorem dX10_come_203 : decode cX10_come 203 = .ok (.getfield 30, 3) := by decide +kernel
theorem dX10_come_206 : decode cX10_come 206 = .ok (.aload_n 3, 1) := by decide +kernel
theorem dX10_come_207 : decode cX10_come 207 = .ok (.aload_n 2, 1) := by decide +kernel
theorem dX10_come_208 : decode cX10_come 208 = .ok (.getfield 206, 3) := by decide +kernel
theorem dX10_come_211 : decode cX10_come 211 = .ok (.invokevirtual 272, 3) := by decide +kernel
theorem dX10_come_214 : decode cX10_come 214 = .ok (.goto 83, 3) := by decide +kernel
theorem dX10_come_217 : decode cX10_come 217 = .ok (.aload_n 0, 1) := by decide +kernel
theorem dX10_come_218 : decode cX10_come 218 = .ok (.getfield 37, 3) := by decide +kernel
theorem dX10_come_221 : decode cX10_come 221 = .ok (.aload_n 3, 1) := by decide +kernel
theorem dX10_come_222 : decode cX10_come 222 = .ok (.aload_n 2, 1) := by decide +kernel
theorem dX10_come_223 : decode cX10_come 223 = .ok (.getfield 189, 3) := by decide +kernel
theorem dX10_come_226 : decode cX10_come 226 = .ok (.aload_n 2, 1) := by decide +kernel
theorem dX10_come_227 : decode cX10_come 227 = .ok (.getfield 200, 3) := by decide +kernel
theorem dX10_come_230 : decode cX10_come 230 = .ok (.aload_n 2, 1) := by decide +kernel
theorem dX10_come_231 : decode cX10_come 231 = .ok (.getfield 203, 3) := by decide +kernel
theorem dX10_come_234 : decode cX10_come 234 = .ok (.invokevirtual 276, 3) := by decide +kernel
theorem dX10_come_237 : decode cX10_come 237 = .ok (.goto 60, 3) := by decide +kernel
theorem dX10_come_240 : decode cX10_come 240 = .ok (.aload_n 0, 1) := by decide +kernel
theorem dX10_come_241 : decode cX10_come 241 = .ok (.getfield 37, 3) := by decide +kernel
theorem dX10_come_244 : decode cX10_come 244 = .ok (.aload_n 3, 1) := by decide +kernel
theorem dX10_come_245 : decode cX10_come 245 = .ok (.aload_n 2, 1) := by decide +kernel
theorem dX10_come_246 : decode cX10_come 246 = .ok (.getfield 189, 3) := by decide +kernel
theorem dX10_come_249 : decode cX10_come 249 = .ok (.aload_n 2, 1) := by decide +kernel
theorem dX10_come_250 : decode cX10_come 250 = .ok (.getfield 200, 3) := by decide +kernel
theorem dX10_come_253 : decode cX10_come 253 = .ok (.invokevirtual 279, 3) := by decide +kernel
theorem dX10_come_256 : decode cX10_come 256 = .ok (.goto 41, 3) := by decide +kernel
theorem dX10_come_259 : decode cX10_come 259 = .ok (.aload_n 0, 1) := by decide +kernel
theorem dX10_come_260 : decode cX10_come 260 = .ok (.getfield 37, 3) := by decide +kernel
theorem dX10_come_263 : decode cX10_come 263 = .ok (.aload_n 3, 1) := by decide +kernel
theorem dX10_come_264 : decode cX10_come 264 = .ok (.aload_n 2, 1) := by decide +kernel
theorem dX10_come_265 : decode cX10_come 265 = .ok (.getfield 189, 3) := by decide +kernel
theorem dX10_come_268 : decode cX10_come 268 = .ok (.aload_n 2, 1) := by decide +kernel
theorem dX10_come_269 : decode cX10_come 269 = .ok (.getfield 200, 3) := by decide +kernel
theorem dX10_come_272 : decode cX10_come 272 = .ok (.aload_n 2, 1) := by decide +kernel
theorem dX10_come_273 : decode cX10_come 273 = .ok (.getfield 203, 3) := by decide +kernel
theorem dX10_come_276 : decode cX10_come 276 = .ok (.invokevirtual 282, 3) := by decide +kernel
theorem dX10_come_279 : decode cX10_come 279 = .ok (.goto 18, 3) := by decide +kernel
theorem dX10_come_282 : decode cX10_come 282 = .ok (.aload_n 0, 1) := by decide +kernel
theorem dX10_come_283 : decode cX10_come 283 = .ok (.getfield 30, 3) := by decide +kernel
theorem dX10_come_286 : decode cX10_come 286 = .ok (.aload_n 3, 1) := by decide +kernel
theorem dX10_come_287 : decode cX10_come 287 = .ok (.aload_n 2, 1) := by decide +kernel
theorem dX10_come_288 : decode cX10_come 288 = .ok (.getfield 189, 3) := by decide +kernel
theorem dX10_come_291 : decode cX10_come 291 = .ok (.invokevirtual 285, 3) := by decide +kernel
theorem dX10_come_294 : decode cX10_come 294 = .ok (.goto 3, 3) := by decide +kernel
theorem dX10_come_297 : decode cX10_come 297 = .ok (.aload_n 2, 1) := by decide +kernel
theorem dX10_come_298 : decode cX10_come 298 = .ok (.getfield 197, 3) := by decide +kernel
theorem dX10_come_301 : decode cX10_come 301 = .ok (.ireturn, 1) := by decide +kernel
