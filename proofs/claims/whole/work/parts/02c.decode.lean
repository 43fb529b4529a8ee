theorem dX11_init_0 : decode cX11_init 0 = .ok (.aload_n 0, 1) := by decide +kernel
theorem dX11_init_1 : decode cX11_init 1 = .ok (.invokespecial 1, 3) := by decide +kernel
theorem dX11_init_4 : decode cX11_init 4 = .ok (.aload_n 0, 1) := by decide +kernel
theorem dX11_init_5 : decode cX11_init 5 = .ok (.sipush 10511, 3) := by decide +kernel
theorem dX11_init_8 : decode cX11_init 8 = .ok (.newarray .int, 2) := by decide +kernel
theorem dX11_init_10 : decode cX11_init 10 = .ok (.putfield 7, 3) := by decide +kernel
theorem dX11_init_13 : decode cX11_init 13 = .ok (.aload_n 0, 1) := by decide +kernel
theorem dX11_init_14 : decode cX11_init 14 = .ok (.iconst 3, 1) := by decide +kernel
theorem dX11_init_15 : decode cX11_init 15 = .ok (.putfield 13, 3) := by decide +kernel
theorem dX11_init_18 : decode cX11_init 18 = .ok (.aload_n 0, 1) := by decide +kernel
theorem dX11_init_19 : decode cX11_init 19 = .ok (.iconst 5, 1) := by decide +kernel
theorem dX11_init_20 : decode cX11_init 20 = .ok (.putfield 17, 3) := by decide +kernel
theorem dX11_init_23 : decode cX11_init 23 = .ok (.aload_n 0, 1) := by decide +kernel
theorem dX11_init_24 : decode cX11_init 24 = .ok (.iconst 4, 1) := by decide +kernel
theorem dX11_init_25 : decode cX11_init 25 = .ok (.putfield 20, 3) := by decide +kernel
theorem dX11_init_28 : decode cX11_init 28 = .ok (.aload_n 0, 1) := by decide +kernel
theorem dX11_init_29 : decode cX11_init 29 = .ok (.iconst 2, 1) := by decide +kernel
theorem dX11_init_30 : decode cX11_init 30 = .ok (.putfield 23, 3) := by decide +kernel
theorem dX11_init_33 : decode cX11_init 33 = .ok (.aload_n 0, 1) := by decide +kernel
theorem dX11_init_34 : decode cX11_init 34 = .ok (.iconst 4, 1) := by decide +kernel
theorem dX11_init_35 : decode cX11_init 35 = .ok (.putfield 26, 3) := by decide +kernel
theorem dX11_init_38 : decode cX11_init 38 = .ok (.aload_n 0, 1) := by decide +kernel
theorem dX11_init_39 : decode cX11_init 39 = .ok (.bipush 64, 2) := by decide +kernel
theorem dX11_init_41 : decode cX11_init 41 = .ok (.newarray .int, 2) := by decide +kernel
theorem dX11_init_43 : decode cX11_init 43 = .ok (.putfield 29, 3) := by decide +kernel
theorem dX11_init_46 : decode cX11_init 46 = .ok (.aload_n 0, 1) := by decide +kernel
theorem dX11_init_47 : decode cX11_init 47 = .ok (.iconst 5, 1) := by decide +kernel
theorem dX11_init_48 : decode cX11_init 48 = .ok (.newarray .int, 2) := by decide +kernel
theorem dX11_init_50 : decode cX11_init 50 = .ok (.putfield 32, 3) := by decide +kernel
theorem dX11_init_53 : decode cX11_init 53 = .ok (.aload_n 0, 1) := by decide +kernel
theorem dX11_init_54 : decode cX11_init 54 = .ok (.bipush 16, 2) := by decide +kernel
theorem dX11_init_56 : decode cX11_init 56 = .ok (.newarray .int, 2) := by decide +kernel
theorem dX11_init_58 : decode cX11_init 58 = .ok (.putfield 35, 3) := by decide +kernel
theorem dX11_init_61 : decode cX11_init 61 = .ok (.aload_n 0, 1) := by decide +kernel
theorem dX11_init_62 : decode cX11_init 62 = .ok (.iconst 5, 1) := by decide +kernel
theorem dX11_init_63 : decode cX11_init 63 = .ok (.newarray .int, 2) := by decide +kernel
theorem dX11_init_65 : decode cX11_init 65 = .ok (.putfield 38, 3) := by decide +kernel
theorem dX11_init_68 : decode cX11_init 68 = .ok (.aload_n 0, 1) := by decide +kernel
theorem dX11_init_69 : decode cX11_init 69 = .ok (.sipush 21022, 3) := by decide +kernel
theorem dX11_init_72 : decode cX11_init 72 = .ok (.newarray .int, 2) := by decide +kernel
theorem dX11_init_74 : decode cX11_init 74 = .ok (.putfield 41, 3) := by decide +kernel
theorem dX11_init_77 : decode cX11_init 77 = .ok (.aload_n 0, 1) := by decide +kernel
theorem dX11_init_78 : decode cX11_init 78 = .ok (.iconst 2, 1) := by decide +kernel
theorem dX11_init_79 : decode cX11_init 79 = .ok (.newarray .boolean, 2) := by decide +kernel
theorem dX11_init_81 : decode cX11_init 81 = .ok (.putfield 44, 3) := by decide +kernel
theorem dX11_init_84 : decode cX11_init 84 = .ok (.aload_n 0, 1) := by decide +kernel
theorem dX11_init_85 : decode cX11_init 85 = .ok (.bipush 10, 2) := by decide +kernel
theorem dX11_init_87 : decode cX11_init 87 = .ok (.newarray .int, 2) := by decide +kernel
theorem dX11_init_89 : decode cX11_init 89 = .ok (.putfield 48, 3) := by decide +kernel
theorem dX11_init_92 : decode cX11_init 92 = .ok (.return_, 1) := by decide +kernel
theorem dX11_in_0 : decode cX11_in 0 = .ok (.lload_n 0, 1) := by decide +kernel
theorem dX11_in_1 : decode cX11_in 1 = .ok (.lload_n 2, 1) := by decide +kernel
theorem dX11_in_2 : decode cX11_in 2 = .ok (.lcmp, 1) := by decide +kernel
theorem dX11_in_3 : decode cX11_in 3 = .ok (.ifCond .lt 14, 3) := by decide +kernel
theorem dX11_in_6 : decode cX11_in 6 = .ok (.lload_n 0, 1) := by decide +kernel
theorem dX11_in_7 : decode cX11_in 7 = .ok (.lload 4, 2) := by decide +kernel
theorem dX11_in_9 : decode cX11_in 9 = .ok (.lcmp, 1) := by decide +kernel
theorem dX11_in_10 : decode cX11_in 10 = .ok (.ifCond .gt 7, 3) := by decide +kernel
theorem dX11_in_13 : decode cX11_in 13 = .ok (.iconst 1, 1) := by decide +kernel
theorem dX11_in_14 : decode cX11_in 14 = .ok (.goto 4, 3) := by decide +kernel
theorem dX11_in_17 : decode cX11_in 17 = .ok (.iconst 0, 1) := by decide +kernel
theorem dX11_in_18 : decode cX11_in 18 = .ok (.ireturn, 1) := by decide +kernel
theorem dX11_isNode_0 : decode cX11_isNode 0 = .ok (.iload_n 1, 1) := by decide +kernel
theorem dX11_isNode_1 : decode cX11_isNode 1 = .ok (.i2l, 1) := by decide +kernel
theorem dX11_isNode_2 : decode cX11_isNode 2 = .ok (.lconst 0, 1) := by decide +kernel
theorem dX11_isNode_3 : decode cX11_isNode 3 = .ok (.aload_n 0, 1) := by decide +kernel
theorem dX11_isNode_4 : decode cX11_isNode 4 = .ok (.getfield 7, 3) := by decide +kernel
theorem dX11_isNode_7 : decode cX11_isNode 7 = .ok (.sipush 10505, 3) := by decide +kernel
theorem dX11_isNode_10 : decode cX11_isNode 10 = .ok (.iaload, 1) := by decide +kernel
theorem dX11_isNode_11 : decode cX11_isNode 11 = .ok (.iconst 1, 1) := by decide +kernel
theorem dX11_isNode_12 : decode cX11_isNode 12 = .ok (.isub, 1) := by decide +kernel
theorem dX11_isNode_13 : decode cX11_isNode 13 = .ok (.i2l, 1) := by decide +kernel
theorem dX11_isNode_14 : decode cX11_isNode 14 = .ok (.invokestatic 51, 3) := by decide +kernel
theorem dX11_isNode_17 : decode cX11_isNode 17 = .ok (.ireturn, 1) := by decide +kernel
theorem dX11_isTale_0 : decode cX11_isTale 0 = .ok (.iload_n 1, 1) := by decide +kernel
theorem dX11_isTale_1 : decode cX11_isTale 1 = .ok (.i2l, 1) := by decide +kernel
theorem dX11_isTale_2 : decode cX11_isTale 2 = .ok (.lconst 0, 1) := by decide +kernel
theorem dX11_isTale_3 : decode cX11_isTale 3 = .ok (.aload_n 0, 1) := by decide +kernel
theorem dX11_isTale_4 : decode cX11_isTale 4 = .ok (.getfield 7, 3) := by decide +kernel
theorem dX11_isTale_7 : decode cX11_isTale 7 = .ok (.sipush 10506, 3) := by decide +kernel
theorem dX11_isTale_10 : decode cX11_isTale 10 = .ok (.iaload, 1) := by decide +kernel
theorem dX11_isTale_11 : decode cX11_isTale 11 = .ok (.iconst 1, 1) := by decide +kernel
theorem dX11_isTale_12 : decode cX11_isTale 12 = .ok (.isub, 1) := by decide +kernel
theorem dX11_isTale_13 : decode cX11_isTale 13 = .ok (.i2l, 1) := by decide +kernel
theorem dX11_isTale_14 : decode cX11_isTale 14 = .ok (.invokestatic 51, 3) := by decide +kernel
theorem dX11_isTale_17 : decode cX11_isTale 17 = .ok (.ireturn, 1) := by decide +kernel
theorem dX11_sizes_0 : decode cX11_sizes 0 = .ok (.iload_n 1, 1) := by decide +kernel
theorem dX11_sizes_1 : decode cX11_sizes 1 = .ok (.i2l, 1) := by decide +kernel
theorem dX11_sizes_2 : decode cX11_sizes 2 = .ok (.ldc2_w 55, 3) := by decide +kernel
theorem dX11_sizes_5 : decode cX11_sizes 5 = .ok (.ldc2_w 57, 3) := by decide +kernel
theorem dX11_sizes_8 : decode cX11_sizes 8 = .ok (.invokestatic 51, 3) := by decide +kernel
theorem dX11_sizes_11 : decode cX11_sizes 11 = .ok (.ifCond .eq 17, 3) := by decide +kernel
theorem dX11_sizes_14 : decode cX11_sizes 14 = .ok (.iload_n 2, 1) := by decide +kernel
theorem dX11_sizes_15 : decode cX11_sizes 15 = .ok (.i2l, 1) := by decide +kernel
theorem dX11_sizes_16 : decode cX11_sizes 16 = .ok (.ldc2_w 55, 3) := by decide +kernel
theorem dX11_sizes_19 : decode cX11_sizes 19 = .ok (.ldc2_w 59, 3) := by decide +kernel
theorem dX11_sizes_22 : decode cX11_sizes 22 = .ok (.invokestatic 51, 3) := by decide +kernel
theorem dX11_sizes_25 : decode cX11_sizes 25 = .ok (.ifCond .ne 6, 3) := by decide +kernel
theorem dX11_sizes_28 : decode cX11_sizes 28 = .ok (.bipush (-2), 2) := by decide +kernel
theorem dX11_sizes_30 : decode cX11_sizes 30 = .ok (.ireturn, 1) := by decide +kernel
theorem dX11_sizes_31 : decode cX11_sizes 31 = .ok (.aload_n 0, 1) := by decide +kernel
theorem dX11_sizes_32 : decode cX11_sizes 32 = .ok (.getfield 7, 3) := by decide +kernel
theorem dX11_sizes_35 : decode cX11_sizes 35 = .ok (.sipush 10505, 3) := by decide +kernel
theorem dX11_sizes_38 : decode cX11_sizes 38 = .ok (.iaload, 1) := by decide +kernel
theorem dX11_sizes_39 : decode cX11_sizes 39 = .ok (.ifCond .le 6, 3) := by decide +kernel
theorem dX11_sizes_42 : decode cX11_sizes 42 = .ok (.bipush (-3), 2) := by decide +kernel
theorem dX11_sizes_44 : decode cX11_sizes 44 = .ok (.ireturn, 1) := by decide +kernel
theorem dX11_sizes_45 : decode cX11_sizes 45 = .ok (.aload_n 0, 1) := by decide +kernel
theorem dX11_sizes_46 : decode cX11_sizes 46 = .ok (.iload_n 1, 1) := by decide +kernel
theorem dX11_sizes_47 : decode cX11_sizes 47 = .ok (.putfield 13, 3) := by decide +kernel
theorem dX11_sizes_50 : decode cX11_sizes 50 = .ok (.aload_n 0, 1) := by decide +kernel
theorem dX11_sizes_51 : decode cX11_sizes 51 = .ok (.iload_n 2, 1) := by decide +kernel
theorem dX11_sizes_52 : decode cX11_sizes 52 = .ok (.putfield 17, 3) := by decide +kernel
theorem dX11_sizes_55 : decode cX11_sizes 55 = .ok (.iconst 1, 1) := by decide +kernel
theorem dX11_sizes_56 : decode cX11_sizes 56 = .ok (.ireturn, 1) := by decide +kernel
theorem dX11_walks_0 : decode cX11_walks 0 = .ok (.iload_n 1, 1) := by decide +kernel
theorem dX11_walks_1 : decode cX11_walks 1 = .ok (.i2l, 1) := by decide +kernel
theorem dX11_walks_2 : decode cX11_walks 2 = .ok (.lconst 1, 1) := by decide +kernel
theorem dX11_walks_3 : decode cX11_walks 3 = .ok (.ldc2_w 61, 3) := by decide +kernel
theorem dX11_walks_6 : decode cX11_walks 6 = .ok (.invokestatic 51, 3) := by decide +kernel
theorem dX11_walks_9 : decode cX11_walks 9 = .ok (.ifCond .eq 26, 3) := by decide +kernel
theorem dX11_walks_12 : decode cX11_walks 12 = .ok (.iload_n 2, 1) := by decide +kernel
theorem dX11_walks_13 : decode cX11_walks 13 = .ok (.i2l, 1) := by decide +kernel
theorem dX11_walks_14 : decode cX11_walks 14 = .ok (.lconst 0, 1) := by decide +kernel
theorem dX11_walks_15 : decode cX11_walks 15 = .ok (.iload_n 1, 1) := by decide +kernel
theorem dX11_walks_16 : decode cX11_walks 16 = .ok (.i2l, 1) := by decide +kernel
theorem dX11_walks_17 : decode cX11_walks 17 = .ok (.invokestatic 51, 3) := by decide +kernel
theorem dX11_walks_20 : decode cX11_walks 20 = .ok (.ifCond .eq 15, 3) := by decide +kernel
theorem dX11_walks_23 : decode cX11_walks 23 = .ok (.iload_n 3, 1) := by decide +kernel
theorem dX11_walks_24 : decode cX11_walks 24 = .ok (.i2l, 1) := by decide +kernel
theorem dX11_walks_25 : decode cX11_walks 25 = .ok (.lconst 1, 1) := by decide +kernel
theorem dX11_walks_26 : decode cX11_walks 26 = .ok (.ldc2_w 63, 3) := by decide +kernel
theorem dX11_walks_29 : decode cX11_walks 29 = .ok (.invokestatic 51, 3) := by decide +kernel
theorem dX11_walks_32 : decode cX11_walks 32 = .ok (.ifCond .ne 6, 3) := by decide +kernel
theorem dX11_walks_35 : decode cX11_walks 35 = .ok (.bipush (-2), 2) := by decide +kernel
theorem dX11_walks_37 : decode cX11_walks 37 = .ok (.ireturn, 1) := by decide +kernel
theorem dX11_walks_38 : decode cX11_walks 38 = .ok (.aload_n 0, 1) := by decide +kernel
theorem dX11_walks_39 : decode cX11_walks 39 = .ok (.getfield 7, 3) := by decide +kernel
theorem dX11_walks_42 : decode cX11_walks 42 = .ok (.sipush 10505, 3) := by decide +kernel
theorem dX11_walks_45 : decode cX11_walks 45 = .ok (.iaload, 1) := by decide +kernel
theorem dX11_walks_46 : decode cX11_walks 46 = .ok (.ifCond .le 6, 3) := by decide +kernel
theorem dX11_walks_49 : decode cX11_walks 49 = .ok (.bipush (-3), 2) := by decide +kernel
theorem dX11_walks_51 : decode cX11_walks 51 = .ok (.ireturn, 1) := by decide +kernel
theorem dX11_walks_52 : decode cX11_walks 52 = .ok (.aload_n 0, 1) := by decide +kernel
theorem dX11_walks_53 : decode cX11_walks 53 = .ok (.iload_n 1, 1) := by decide +kernel
theorem dX11_walks_54 : decode cX11_walks 54 = .ok (.putfield 20, 3) := by decide +kernel
theorem dX11_walks_57 : decode cX11_walks 57 = .ok (.aload_n 0, 1) := by decide +kernel
theorem dX11_walks_58 : decode cX11_walks 58 = .ok (.iload_n 2, 1) := by decide +kernel
theorem dX11_walks_59 : decode cX11_walks 59 = .ok (.putfield 23, 3) := by decide +kernel
theorem dX11_walks_62 : decode cX11_walks 62 = .ok (.aload_n 0, 1) := by decide +kernel
theorem dX11_walks_63 : decode cX11_walks 63 = .ok (.iload_n 3, 1) := by decide +kernel
theorem dX11_walks_64 : decode cX11_walks 64 = .ok (.putfield 26, 3) := by decide +kernel
theorem dX11_walks_67 : decode cX11_walks 67 = .ok (.iconst 1, 1) := by decide +kernel
theorem dX11_walks_68 : decode cX11_walks 68 = .ok (.ireturn, 1) := by decide +kernel
theorem dX11_coin_0 : decode cX11_coin 0 = .ok (.iload_n 1, 1) := by decide +kernel
theorem dX11_coin_1 : decode cX11_coin 1 = .ok (.ifCond .ge 6, 3) := by decide +kernel
theorem dX11_coin_4 : decode cX11_coin 4 = .ok (.bipush (-2), 2) := by decide +kernel
theorem dX11_coin_6 : decode cX11_coin 6 = .ok (.ireturn, 1) := by decide +kernel
theorem dX11_coin_7 : decode cX11_coin 7 = .ok (.aload_n 0, 1) := by decide +kernel
theorem dX11_coin_8 : decode cX11_coin 8 = .ok (.getfield 65, 3) := by decide +kernel
theorem dX11_coin_11 : decode cX11_coin 11 = .ok (.bipush 64, 2) := by decide +kernel
theorem dX11_coin_13 : decode cX11_coin 13 = .ok (.if_icmp .ne 6, 3) := by decide +kernel
theorem dX11_coin_16 : decode cX11_coin 16 = .ok (.bipush (-4), 2) := by decide +kernel
theorem dX11_coin_18 : decode cX11_coin 18 = .ok (.ireturn, 1) := by decide +kernel
theorem dX11_coin_19 : decode cX11_coin 19 = .ok (.aload_n 0, 1) := by decide +kernel
theorem dX11_coin_20 : decode cX11_coin 20 = .ok (.getfield 29, 3) := by decide +kernel
theorem dX11_coin_23 : decode cX11_coin 23 = .ok (.aload_n 0, 1) := by decide +kernel
theorem dX11_coin_24 : decode cX11_coin 24 = .ok (.getfield 65, 3) := by decide +kernel
theorem dX11_coin_27 : decode cX11_coin 27 = .ok (.iload_n 1, 1) := by decide +kernel
theorem dX11_coin_28 : decode cX11_coin 28 = .ok (.iastore, 1) := by decide +kernel
theorem dX11_coin_29 : decode cX11_coin 29 = .ok (.aload_n 0, 1) := by decide +kernel
theorem dX11_coin_30 : decode cX11_coin 30 = .ok (.dup, 1) := by decide +kernel
theorem dX11_coin_31 : decode cX11_coin 31 = .ok (.getfield 65, 3) := by decide +kernel
theorem dX11_coin_34 : decode cX11_coin 34 = .ok (.iconst 1, 1) := by decide +kernel
theorem dX11_coin_35 : decode cX11_coin 35 = .ok (.iadd, 1) := by decide +kernel
theorem dX11_coin_36 : decode cX11_coin 36 = .ok (.putfield 65, 3) := by decide +kernel
theorem dX11_coin_39 : decode cX11_coin 39 = .ok (.aload_n 0, 1) := by decide +kernel
theorem dX11_coin_40 : decode cX11_coin 40 = .ok (.getfield 65, 3) := by decide +kernel
theorem dX11_coin_43 : decode cX11_coin 43 = .ok (.ireturn, 1) := by decide +kernel
theorem dX11_draw_0 : decode cX11_draw 0 = .ok (.iload_n 1, 1) := by decide +kernel
theorem dX11_draw_1 : decode cX11_draw 1 = .ok (.iconst 1, 1) := by decide +kernel
theorem dX11_draw_2 : decode cX11_draw 2 = .ok (.if_icmp .eq 10, 3) := by decide +kernel
theorem dX11_draw_5 : decode cX11_draw 5 = .ok (.aload_n 0, 1) := by decide +kernel
theorem dX11_draw_6 : decode cX11_draw 6 = .ok (.getfield 65, 3) := by decide +kernel
theorem dX11_draw_9 : decode cX11_draw 9 = .ok (.ifCond .ne 5, 3) := by decide +kernel
theorem dX11_draw_12 : decode cX11_draw 12 = .ok (.iconst 0, 1) := by decide +kernel
theorem dX11_draw_13 : decode cX11_draw 13 = .ok (.ireturn, 1) := by decide +kernel
theorem dX11_draw_14 : decode cX11_draw 14 = .ok (.aload_n 0, 1) := by decide +kernel
theorem dX11_draw_15 : decode cX11_draw 15 = .ok (.getfield 29, 3) := by decide +kernel
theorem dX11_draw_18 : decode cX11_draw 18 = .ok (.aload_n 0, 1) := by decide +kernel
theorem dX11_draw_19 : decode cX11_draw 19 = .ok (.getfield 7, 3) := by decide +kernel
theorem dX11_draw_22 : decode cX11_draw 22 = .ok (.sipush 10510, 3) := by decide +kernel
theorem dX11_draw_25 : decode cX11_draw 25 = .ok (.iaload, 1) := by decide +kernel
theorem dX11_draw_26 : decode cX11_draw 26 = .ok (.iaload, 1) := by decide +kernel
theorem dX11_draw_27 : decode cX11_draw 27 = .ok (.iload_n 1, 1) := by decide +kernel
theorem dX11_draw_28 : decode cX11_draw 28 = .ok (.irem, 1) := by decide +kernel
theorem dX11_draw_29 : decode cX11_draw 29 = .ok (.istore_n 2, 1) := by decide +kernel
theorem dX11_draw_30 : decode cX11_draw 30 = .ok (.aload_n 0, 1) := by decide +kernel
theorem dX11_draw_31 : decode cX11_draw 31 = .ok (.getfield 7, 3) := by decide +kernel
theorem dX11_draw_34 : decode cX11_draw 34 = .ok (.sipush 10510, 3) := by decide +kernel
theorem dX11_draw_37 : decode cX11_draw 37 = .ok (.aload_n 0, 1) := by decide +kernel
theorem dX11_draw_38 : decode cX11_draw 38 = .ok (.getfield 7, 3) := by decide +kernel
theorem dX11_draw_41 : decode cX11_draw 41 = .ok (.sipush 10510, 3) := by decide +kernel
theorem dX11_draw_44 : decode cX11_draw 44 = .ok (.iaload, 1) := by decide +kernel
theorem dX11_draw_45 : decode cX11_draw 45 = .ok (.iconst 1, 1) := by decide +kernel
theorem dX11_draw_46 : decode cX11_draw 46 = .ok (.iadd, 1) := by decide +kernel
theorem dX11_draw_47 : decode cX11_draw 47 = .ok (.aload_n 0, 1) := by decide +kernel
theorem dX11_draw_48 : decode cX11_draw 48 = .ok (.getfield 65, 3) := by decide +kernel
theorem dX11_draw_51 : decode cX11_draw 51 = .ok (.if_icmp .ne 7, 3) := by decide +kernel
theorem dX11_draw_54 : decode cX11_draw 54 = .ok (.iconst 0, 1) := by decide +kernel
theorem dX11_draw_55 : decode cX11_draw 55 = .ok (.goto 13, 3) := by decide +kernel
theorem dX11_draw_58 : decode cX11_draw 58 = .ok (.aload_n 0, 1) := by decide +kernel
theorem dX11_draw_59 : decode cX11_draw 59 = .ok (.getfield 7, 3) := by decide +kernel
theorem dX11_draw_62 : decode cX11_draw 62 = .ok (.sipush 10510, 3) := by decide +kernel
theorem dX11_draw_65 : decode cX11_draw 65 = .ok (.iaload, 1) := by decide +kernel
theorem dX11_draw_66 : decode cX11_draw 66 = .ok (.iconst 1, 1) := by decide +kernel
theorem dX11_draw_67 : decode cX11_draw 67 = .ok (.iadd, 1) := by decide +kernel
theorem dX11_draw_68 : decode cX11_draw 68 = .ok (.iastore, 1) := by decide +kernel
theorem dX11_draw_69 : decode cX11_draw 69 = .ok (.iload_n 2, 1) := by decide +kernel
theorem dX11_draw_70 : decode cX11_draw 70 = .ok (.ireturn, 1) := by decide +kernel
theorem dX11_ofLetter_0 : decode cX11_ofLetter 0 = .ok (.sipush 4992, 3) := by decide +kernel
theorem dX11_ofLetter_3 : decode cX11_ofLetter 3 = .ok (.bipush 11, 2) := by decide +kernel
theorem dX11_ofLetter_5 : decode cX11_ofLetter 5 = .ok (.iload_n 1, 1) := by decide +kernel
theorem dX11_ofLetter_6 : decode cX11_ofLetter 6 = .ok (.imul, 1) := by decide +kernel
theorem dX11_ofLetter_7 : decode cX11_ofLetter 7 = .ok (.iadd, 1) := by decide +kernel
theorem dX11_ofLetter_8 : decode cX11_ofLetter 8 = .ok (.iload_n 2, 1) := by decide +kernel
theorem dX11_ofLetter_9 : decode cX11_ofLetter 9 = .ok (.iadd, 1) := by decide +kernel
theorem dX11_ofLetter_10 : decode cX11_ofLetter 10 = .ok (.ireturn, 1) := by decide +kernel
theorem dX11_post_0 : decode cX11_post 0 = .ok (.aload_n 0, 1) := by decide +kernel
theorem dX11_post_1 : decode cX11_post 1 = .ok (.getfield 7, 3) := by decide +kernel
theorem dX11_post_4 : decode cX11_post 4 = .ok (.sipush 10507, 3) := by decide +kernel
theorem dX11_post_7 : decode cX11_post 7 = .ok (.iaload, 1) := by decide +kernel
theorem dX11_post_8 : decode cX11_post 8 = .ok (.sipush 500, 3) := by decide +kernel
theorem dX11_post_11 : decode cX11_post 11 = .ok (.if_icmp .ne 16, 3) := by decide +kernel
theorem dX11_post_14 : decode cX11_post 14 = .ok (.aload_n 0, 1) := by decide +kernel
theorem dX11_post_15 : decode cX11_post 15 = .ok (.getfield 7, 3) := by decide +kernel
theorem dX11_post_18 : decode cX11_post 18 = .ok (.sipush 10508, 3) := by decide +kernel
theorem dX11_post_21 : decode cX11_post 21 = .ok (.dup2, 1) := by decide +kernel
theorem dX11_post_22 : decode cX11_post 22 = .ok (.iaload, 1) := by decide +kernel
theorem dX11_post_23 : decode cX11_post 23 = .ok (.iconst 1, 1) := by decide +kernel
theorem dX11_post_24 : decode cX11_post 24 = .ok (.iadd, 1) := by decide +kernel
theorem dX11_post_25 : decode cX11_post 25 = .ok (.iastore, 1) := by decide +kernel
theorem dX11_post_26 : decode cX11_post 26 = .ok (.return_, 1) := by decide +kernel
theorem dX11_post_27 : decode cX11_post 27 = .ok (.aload_n 0, 1) := by decide +kernel
theorem dX11_post_28 : decode cX11_post 28 = .ok (.aload_n 0, 1) := by decide +kernel
theorem dX11_post_29 : decode cX11_post 29 = .ok (.getfield 7, 3) := by decide +kernel
theorem dX11_post_32 : decode cX11_post 32 = .ok (.sipush 10507, 3) := by decide +kernel
theorem dX11_post_35 : decode cX11_post 35 = .ok (.iaload, 1) := by decide +kernel
theorem dX11_post_36 : decode cX11_post 36 = .ok (.iconst 0, 1) := by decide +kernel
theorem dX11_post_37 : decode cX11_post 37 = .ok (.invokevirtual 68, 3) := by decide +kernel
theorem dX11_post_40 : decode cX11_post 40 = .ok (.istore 7, 2) := by decide +kernel
theorem dX11_post_42 : decode cX11_post 42 = .ok (.aload_n 0, 1) := by decide +kernel
theorem dX11_post_43 : decode cX11_post 43 = .ok (.getfield 7, 3) := by decide +kernel
theorem dX11_post_46 : decode cX11_post 46 = .ok (.iload 7, 2) := by decide +kernel
theorem dX11_post_48 : decode cX11_post 48 = .ok (.iconst 0, 1) := by decide +kernel
theorem dX11_post_49 : decode cX11_post 49 = .ok (.iadd, 1) := by decide +kernel
theorem dX11_post_50 : decode cX11_post 50 = .ok (.iload_n 1, 1) := by decide +kernel
theorem dX11_post_51 : decode cX11_post 51 = .ok (.iastore, 1) := by decide +kernel
theorem dX11_post_52 : decode cX11_post 52 = .ok (.aload_n 0, 1) := by decide +kernel
theorem dX11_post_53 : decode cX11_post 53 = .ok (.getfield 7, 3) := by decide +kernel
theorem dX11_post_56 : decode cX11_post 56 = .ok (.iload 7, 2) := by decide +kernel
theorem dX11_post_58 : decode cX11_post 58 = .ok (.iconst 1, 1) := by decide +kernel
theorem dX11_post_59 : decode cX11_post 59 = .ok (.iadd, 1) := by decide +kernel
theorem dX11_post_60 : decode cX11_post 60 = .ok (.iload_n 2, 1) := by decide +kernel
theorem dX11_post_61 : decode cX11_post 61 = .ok (.iastore, 1) := by decide +kernel
theorem dX11_post_62 : decode cX11_post 62 = .ok (.aload_n 0, 1) := by decide +kernel
theorem dX11_post_63 : decode cX11_post 63 = .ok (.getfield 7, 3) := by decide +kernel
theorem dX11_post_66 : decode cX11_post 66 = .ok (.iload 7, 2) := by decide +kernel
theorem dX11_post_68 : decode cX11_post 68 = .ok (.iconst 2, 1) := by decide +kernel
theorem dX11_post_69 : decode cX11_post 69 = .ok (.iadd, 1) := by decide +kernel
theorem dX11_post_70 : decode cX11_post 70 = .ok (.iload_n 3, 1) := by decide +kernel
theorem dX11_post_71 : decode cX11_post 71 = .ok (.iastore, 1) := by decide +kernel
theorem dX11_post_72 : decode cX11_post 72 = .ok (.aload_n 0, 1) := by decide +kernel
theorem dX11_post_73 : decode cX11_post 73 = .ok (.getfield 7, 3) := by decide +kernel
theorem dX11_post_76 : decode cX11_post 76 = .ok (.iload 7, 2) := by decide +kernel
theorem dX11_post_78 : decode cX11_post 78 = .ok (.iconst 3, 1) := by decide +kernel
theorem dX11_post_79 : decode cX11_post 79 = .ok (.iadd, 1) := by decide +kernel
theorem dX11_post_80 : decode cX11_post 80 = .ok (.iload 4, 2) := by decide +kernel
theorem dX11_post_82 : decode cX11_post 82 = .ok (.iastore, 1) := by decide +kernel
theorem dX11_post_83 : decode cX11_post 83 = .ok (.aload_n 0, 1) := by decide +kernel
theorem dX11_post_84 : decode cX11_post 84 = .ok (.getfield 7, 3) := by decide +kernel
theorem dX11_post_87 : decode cX11_post 87 = .ok (.iload 7, 2) := by decide +kernel
theorem dX11_post_89 : decode cX11_post 89 = .ok (.iconst 4, 1) := by decide +kernel
theorem dX11_post_90 : decode cX11_post 90 = .ok (.iadd, 1) := by decide +kernel
theorem dX11_post_91 : decode cX11_post 91 = .ok (.iload 5, 2) := by decide +kernel
theorem dX11_post_93 : decode cX11_post 93 = .ok (.iastore, 1) := by decide +kernel
theorem dX11_post_94 : decode cX11_post 94 = .ok (.aload_n 0, 1) := by decide +kernel
theorem dX11_post_95 : decode cX11_post 95 = .ok (.getfield 7, 3) := by decide +kernel
theorem dX11_post_98 : decode cX11_post 98 = .ok (.iload 7, 2) := by decide +kernel
theorem dX11_post_100 : decode cX11_post 100 = .ok (.iconst 5, 1) := by decide +kernel
theorem dX11_post_101 : decode cX11_post 101 = .ok (.iadd, 1) := by decide +kernel
theorem dX11_post_102 : decode cX11_post 102 = .ok (.iload 6, 2) := by decide +kernel
theorem dX11_post_104 : decode cX11_post 104 = .ok (.iastore, 1) := by decide +kernel
theorem dX11_post_105 : decode cX11_post 105 = .ok (.iconst 0, 1) := by decide +kernel
theorem dX11_post_106 : decode cX11_post 106 = .ok (.istore 8, 2) := by decide +kernel
theorem dX11_post_108 : decode cX11_post 108 = .ok (.iload 8, 2) := by decide +kernel
theorem dX11_post_110 : decode cX11_post 110 = .ok (.iconst 5, 1) := by decide +kernel
theorem dX11_post_111 : decode cX11_post 111 = .ok (.if_icmp .ge 40, 3) := by decide +kernel
theorem dX11_post_114 : decode cX11_post 114 = .ok (.aload_n 0, 1) := by decide +kernel
theorem dX11_post_115 : decode cX11_post 115 = .ok (.getfield 7, 3) := by decide +kernel
theorem dX11_post_118 : decode cX11_post 118 = .ok (.iload 7, 2) := by decide +kernel
theorem dX11_post_120 : decode cX11_post 120 = .ok (.bipush 6, 2) := by decide +kernel
theorem dX11_post_122 : decode cX11_post 122 = .ok (.iadd, 1) := by decide +kernel
theorem dX11_post_123 : decode cX11_post 123 = .ok (.iload 8, 2) := by decide +kernel
theorem dX11_post_125 : decode cX11_post 125 = .ok (.iadd, 1) := by decide +kernel
theorem dX11_post_126 : decode cX11_post 126 = .ok (.iload 8, 2) := by decide +kernel
theorem dX11_post_128 : decode cX11_post 128 = .ok (.iload 6, 2) := by decide +kernel
theorem dX11_post_130 : decode cX11_post 130 = .ok (.if_icmp .ge 13, 3) := by decide +kernel
theorem dX11_post_133 : decode cX11_post 133 = .ok (.aload_n 0, 1) := by decide +kernel
theorem dX11_post_134 : decode cX11_post 134 = .ok (.getfield 32, 3) := by decide +kernel
theorem dX11_post_137 : decode cX11_post 137 = .ok (.iload 8, 2) := by decide +kernel
theorem dX11_post_139 : decode cX11_post 139 = .ok (.iaload, 1) := by decide +kernel
theorem dX11_post_140 : decode cX11_post 140 = .ok (.goto 4, 3) := by decide +kernel
theorem dX11_post_143 : decode cX11_post 143 = .ok (.iconst 0, 1) := by decide +kernel
theorem dX11_post_144 : decode cX11_post 144 = .ok (.iastore, 1) := by decide +kernel
theorem dX11_post_145 : decode cX11_post 145 = .ok (.iinc 8 1, 3) := by decide +kernel
theorem dX11_post_148 : decode cX11_post 148 = .ok (.goto (-40), 3) := by decide +kernel
theorem dX11_post_151 : decode cX11_post 151 = .ok (.aload_n 0, 1) := by decide +kernel
theorem dX11_post_152 : decode cX11_post 152 = .ok (.getfield 7, 3) := by decide +kernel
theorem dX11_post_155 : decode cX11_post 155 = .ok (.sipush 10507, 3) := by decide +kernel
theorem dX11_post_158 : decode cX11_post 158 = .ok (.dup2, 1) := by decide +kernel
theorem dX11_post_159 : decode cX11_post 159 = .ok (.iaload, 1) := by decide +kernel
theorem dX11_post_160 : decode cX11_post 160 = .ok (.iconst 1, 1) := by decide +kernel
theorem dX11_post_161 : decode cX11_post 161 = .ok (.iadd, 1) := by decide +kernel
theorem dX11_post_162 : decode cX11_post 162 = .ok (.iastore, 1) := by decide +kernel
theorem dX11_post_163 : decode cX11_post 163 = .ok (.return_, 1) := by decide +kernel
theorem dX11_sendList_0 : decode cX11_sendList 0 = .ok (.aload_n 0, 1) := by decide +kernel
theorem dX11_sendList_1 : decode cX11_sendList 1 = .ok (.getfield 7, 3) := by decide +kernel
theorem dX11_sendList_4 : decode cX11_sendList 4 = .ok (.iconst 0, 1) := by decide +kernel
theorem dX11_sendList_5 : decode cX11_sendList 5 = .ok (.iload_n 2, 1) := by decide +kernel
theorem dX11_sendList_6 : decode cX11_sendList 6 = .ok (.iadd, 1) := by decide +kernel
theorem dX11_sendList_7 : decode cX11_sendList 7 = .ok (.iaload, 1) := by decide +kernel
theorem dX11_sendList_8 : decode cX11_sendList 8 = .ok (.iconst 1, 1) := by decide +kernel
theorem dX11_sendList_9 : decode cX11_sendList 9 = .ok (.if_icmp .ne 19, 3) := by decide +kernel
theorem dX11_sendList_12 : decode cX11_sendList 12 = .ok (.aload_n 0, 1) := by decide +kernel
theorem dX11_sendList_13 : decode cX11_sendList 13 = .ok (.iload_n 1, 1) := by decide +kernel
theorem dX11_sendList_14 : decode cX11_sendList 14 = .ok (.iload_n 2, 1) := by decide +kernel
theorem dX11_sendList_15 : decode cX11_sendList 15 = .ok (.iload_n 3, 1) := by decide +kernel
theorem dX11_sendList_16 : decode cX11_sendList 16 = .ok (.iload 4, 2) := by decide +kernel
theorem dX11_sendList_18 : decode cX11_sendList 18 = .ok (.iload 5, 2) := by decide +kernel
theorem dX11_sendList_20 : decode cX11_sendList 20 = .ok (.iload 6, 2) := by decide +kernel
theorem dX11_sendList_22 : decode cX11_sendList 22 = .ok (.invokevirtual 72, 3) := by decide +kernel
theorem dX11_sendList_25 : decode cX11_sendList 25 = .ok (.goto 14, 3) := by decide +kernel
theorem dX11_sendList_28 : decode cX11_sendList 28 = .ok (.aload_n 0, 1) := by decide +kernel
theorem dX11_sendList_29 : decode cX11_sendList 29 = .ok (.iload_n 2, 1) := by decide +kernel
theorem dX11_sendList_30 : decode cX11_sendList 30 = .ok (.iload_n 1, 1) := by decide +kernel
theorem dX11_sendList_31 : decode cX11_sendList 31 = .ok (.bipush 12, 2) := by decide +kernel
theorem dX11_sendList_33 : decode cX11_sendList 33 = .ok (.iconst 0, 1) := by decide +kernel
theorem dX11_sendList_34 : decode cX11_sendList 34 = .ok (.iconst 0, 1) := by decide +kernel
theorem dX11_sendList_35 : decode cX11_sendList 35 = .ok (.iconst 0, 1) := by decide +kernel
theorem dX11_sendList_36 : decode cX11_sendList 36 = .ok (.invokevirtual 72, 3) := by decide +kernel
theorem dX11_sendList_39 : decode cX11_sendList 39 = .ok (.return_, 1) := by decide +kernel
theorem dX11_send_0 : decode cX11_send 0 = .ok (.aload_n 0, 1) := by decide +kernel
theorem dX11_send_1 : decode cX11_send 1 = .ok (.iload_n 1, 1) := by decide +kernel
theorem dX11_send_2 : decode cX11_send 2 = .ok (.iload_n 2, 1) := by decide +kernel
theorem dX11_send_3 : decode cX11_send 3 = .ok (.iload_n 3, 1) := by decide +kernel
theorem dX11_send_4 : decode cX11_send 4 = .ok (.iload 4, 2) := by decide +kernel
theorem dX11_send_6 : decode cX11_send 6 = .ok (.iload 5, 2) := by decide +kernel
theorem dX11_send_8 : decode cX11_send 8 = .ok (.iconst 0, 1) := by decide +kernel
theorem dX11_send_9 : decode cX11_send 9 = .ok (.invokevirtual 76, 3) := by decide +kernel
theorem dX11_send_12 : decode cX11_send 12 = .ok (.return_, 1) := by decide +kernel
theorem dX11_takeOutLetter_0 : decode cX11_takeOutLetter 0 = .ok (.aload_n 0, 1) := by decide +kernel
theorem dX11_takeOutLetter_1 : decode cX11_takeOutLetter 1 = .ok (.iload_n 1, 1) := by decide +kernel
theorem dX11_takeOutLetter_2 : decode cX11_takeOutLetter 2 = .ok (.iconst 1, 1) := by decide +kernel
theorem dX11_takeOutLetter_3 : decode cX11_takeOutLetter 3 = .ok (.iadd, 1) := by decide +kernel
theorem dX11_takeOutLetter_4 : decode cX11_takeOutLetter 4 = .ok (.iconst 0, 1) := by decide +kernel
theorem dX11_takeOutLetter_5 : decode cX11_takeOutLetter 5 = .ok (.invokevirtual 68, 3) := by decide +kernel
theorem dX11_takeOutLetter_8 : decode cX11_takeOutLetter 8 = .ok (.istore_n 2, 1) := by decide +kernel
theorem dX11_takeOutLetter_9 : decode cX11_takeOutLetter 9 = .ok (.aload_n 0, 1) := by decide +kernel
theorem dX11_takeOutLetter_10 : decode cX11_takeOutLetter 10 = .ok (.aload_n 0, 1) := by decide +kernel
theorem dX11_takeOutLetter_11 : decode cX11_takeOutLetter 11 = .ok (.getfield 7, 3) := by decide +kernel
theorem dX11_takeOutLetter_14 : decode cX11_takeOutLetter 14 = .ok (.sipush 10507, 3) := by decide +kernel
theorem dX11_takeOutLetter_17 : decode cX11_takeOutLetter 17 = .ok (.iaload, 1) := by decide +kernel
theorem dX11_takeOutLetter_18 : decode cX11_takeOutLetter 18 = .ok (.iconst 0, 1) := by decide +kernel
theorem dX11_takeOutLetter_19 : decode cX11_takeOutLetter 19 = .ok (.invokevirtual 68, 3) := by decide +kernel
theorem dX11_takeOutLetter_22 : decode cX11_takeOutLetter 22 = .ok (.istore_n 3, 1) := by decide +kernel
theorem dX11_takeOutLetter_23 : decode cX11_takeOutLetter 23 = .ok (.iload_n 2, 1) := by decide +kernel
theorem dX11_takeOutLetter_24 : decode cX11_takeOutLetter 24 = .ok (.istore 4, 2) := by decide +kernel
theorem dX11_takeOutLetter_26 : decode cX11_takeOutLetter 26 = .ok (.iload 4, 2) := by decide +kernel
theorem dX11_takeOutLetter_28 : decode cX11_takeOutLetter 28 = .ok (.iload_n 3, 1) := by decide +kernel
theorem dX11_takeOutLetter_29 : decode cX11_takeOutLetter 29 = .ok (.if_icmp .ge 26, 3) := by decide +kernel
theorem dX11_takeOutLetter_32 : decode cX11_takeOutLetter 32 = .ok (.aload_n 0, 1) := by decide +kernel
theorem dX11_takeOutLetter_33 : decode cX11_takeOutLetter 33 = .ok (.getfield 7, 3) := by decide +kernel
theorem dX11_takeOutLetter_36 : decode cX11_takeOutLetter 36 = .ok (.iload 4, 2) := by decide +kernel
theorem dX11_takeOutLetter_38 : decode cX11_takeOutLetter 38 = .ok (.bipush 11, 2) := by decide +kernel
theorem dX11_takeOutLetter_40 : decode cX11_takeOutLetter 40 = .ok (.isub, 1) := by decide +kernel
theorem dX11_takeOutLetter_41 : decode cX11_takeOutLetter 41 = .ok (.aload_n 0, 1) := by decide +kernel
theorem dX11_takeOutLetter_42 : decode cX11_takeOutLetter 42 = .ok (.getfield 7, 3) := by decide +kernel
theorem dX11_takeOutLetter_45 : decode cX11_takeOutLetter 45 = .ok (.iload 4, 2) := by decide +kernel
theorem dX11_takeOutLetter_47 : decode cX11_takeOutLetter 47 = .ok (.iaload, 1) := by decide +kernel
theorem dX11_takeOutLetter_48 : decode cX11_takeOutLetter 48 = .ok (.iastore, 1) := by decide +kernel
theorem dX11_takeOutLetter_49 : decode cX11_takeOutLetter 49 = .ok (.iinc 4 1, 3) := by decide +kernel
theorem dX11_takeOutLetter_52 : decode cX11_takeOutLetter 52 = .ok (.goto (-26), 3) := by decide +kernel
theorem dX11_takeOutLetter_55 : decode cX11_takeOutLetter 55 = .ok (.aload_n 0, 1) := by decide +kernel
theorem dX11_takeOutLetter_56 : decode cX11_takeOutLetter 56 = .ok (.getfield 7, 3) := by decide +kernel
theorem dX11_takeOutLetter_59 : decode cX11_takeOutLetter 59 = .ok (.sipush 10507, 3) := by decide +kernel
theorem dX11_takeOutLetter_62 : decode cX11_takeOutLetter 62 = .ok (.dup2, 1) := by decide +kernel
theorem dX11_takeOutLetter_63 : decode cX11_takeOutLetter 63 = .ok (.iaload, 1) := by decide +kernel
theorem dX11_takeOutLetter_64 : decode cX11_takeOutLetter 64 = .ok (.iconst 1, 1) := by decide +kernel
theorem dX11_takeOutLetter_65 : decode cX11_takeOutLetter 65 = .ok (.isub, 1) := by decide +kernel
theorem dX11_takeOutLetter_66 : decode cX11_takeOutLetter 66 = .ok (.iastore, 1) := by decide +kernel
theorem dX11_takeOutLetter_67 : decode cX11_takeOutLetter 67 = .ok (.return_, 1) := by decide +kernel
theorem dX11_activeAt_0 : decode cX11_activeAt 0 = .ok (.iconst 0, 1) := by decide +kernel
theorem dX11_activeAt_1 : decode cX11_activeAt 1 = .ok (.istore_n 3, 1) := by decide +kernel
theorem dX11_activeAt_2 : decode cX11_activeAt 2 = .ok (.iload_n 3, 1) := by decide +kernel
theorem dX11_activeAt_3 : decode cX11_activeAt 3 = .ok (.aload_n 0, 1) := by decide +kernel
theorem dX11_activeAt_4 : decode cX11_activeAt 4 = .ok (.getfield 7, 3) := by decide +kernel
theorem dX11_activeAt_7 : decode cX11_activeAt 7 = .ok (.bipush 16, 2) := by decide +kernel
theorem dX11_activeAt_9 : decode cX11_activeAt 9 = .ok (.iload_n 1, 1) := by decide +kernel
theorem dX11_activeAt_10 : decode cX11_activeAt 10 = .ok (.iadd, 1) := by decide +kernel
theorem dX11_activeAt_11 : decode cX11_activeAt 11 = .ok (.iaload, 1) := by decide +kernel
theorem dX11_activeAt_12 : decode cX11_activeAt 12 = .ok (.if_icmp .ge 28, 3) := by decide +kernel
theorem dX11_activeAt_15 : decode cX11_activeAt 15 = .ok (.aload_n 0, 1) := by decide +kernel
theorem dX11_activeAt_16 : decode cX11_activeAt 16 = .ok (.getfield 7, 3) := by decide +kernel
theorem dX11_activeAt_19 : decode cX11_activeAt 19 = .ok (.bipush 96, 2) := by decide +kernel
theorem dX11_activeAt_21 : decode cX11_activeAt 21 = .ok (.iconst 5, 1) := by decide +kernel
theorem dX11_activeAt_22 : decode cX11_activeAt 22 = .ok (.iload_n 1, 1) := by decide +kernel
theorem dX11_activeAt_23 : decode cX11_activeAt 23 = .ok (.imul, 1) := by decide +kernel
theorem dX11_activeAt_24 : decode cX11_activeAt 24 = .ok (.iadd, 1) := by decide +kernel
theorem dX11_activeAt_25 : decode cX11_activeAt 25 = .ok (.iload_n 3, 1) := by decide +kernel
theorem dX11_activeAt_26 : decode cX11_activeAt 26 = .ok (.iadd, 1) := by decide +kernel
theorem dX11_activeAt_27 : decode cX11_activeAt 27 = .ok (.iaload, 1) := by decide +kernel
theorem dX11_activeAt_28 : decode cX11_activeAt 28 = .ok (.iload_n 2, 1) := by decide +kernel
theorem dX11_activeAt_29 : decode cX11_activeAt 29 = .ok (.if_icmp .ne 5, 3) := by decide +kernel
theorem dX11_activeAt_32 : decode cX11_activeAt 32 = .ok (.iload_n 3, 1) := by decide +kernel
theorem dX11_activeAt_33 : decode cX11_activeAt 33 = .ok (.ireturn, 1) := by decide +kernel
theorem dX11_activeAt_34 : decode cX11_activeAt 34 = .ok (.iinc 3 1, 3) := by decide +kernel
theorem dX11_activeAt_37 : decode cX11_activeAt 37 = .ok (.goto (-35), 3) := by decide +kernel
theorem dX11_activeAt_40 : decode cX11_activeAt 40 = .ok (.iconst (-1), 1) := by decide +kernel
theorem dX11_activeAt_41 : decode cX11_activeAt 41 = .ok (.ireturn, 1) := by decide +kernel
theorem dX11_passiveAt_0 : decode cX11_passiveAt 0 = .ok (.iconst 0, 1) := by decide +kernel
theorem dX11_passiveAt_1 : decode cX11_passiveAt 1 = .ok (.istore_n 3, 1) := by decide +kernel
theorem dX11_passiveAt_2 : decode cX11_passiveAt 2 = .ok (.iload_n 3, 1) := by decide +kernel
theorem dX11_passiveAt_3 : decode cX11_passiveAt 3 = .ok (.aload_n 0, 1) := by decide +kernel
theorem dX11_passiveAt_4 : decode cX11_passiveAt 4 = .ok (.getfield 7, 3) := by decide +kernel
theorem dX11_passiveAt_7 : decode cX11_passiveAt 7 = .ok (.bipush 32, 2) := by decide +kernel
theorem dX11_passiveAt_9 : decode cX11_passiveAt 9 = .ok (.iload_n 1, 1) := by decide +kernel
theorem dX11_passiveAt_10 : decode cX11_passiveAt 10 = .ok (.iadd, 1) := by decide +kernel
theorem dX11_passiveAt_11 : decode cX11_passiveAt 11 = .ok (.iaload, 1) := by decide +kernel
theorem dX11_passiveAt_12 : decode cX11_passiveAt 12 = .ok (.if_icmp .ge 30, 3) := by decide +kernel
theorem dX11_passiveAt_15 : decode cX11_passiveAt 15 = .ok (.aload_n 0, 1) := by decide +kernel
theorem dX11_passiveAt_16 : decode cX11_passiveAt 16 = .ok (.getfield 7, 3) := by decide +kernel
theorem dX11_passiveAt_19 : decode cX11_passiveAt 19 = .ok (.sipush 256, 3) := by decide +kernel
theorem dX11_passiveAt_22 : decode cX11_passiveAt 22 = .ok (.bipush 8, 2) := by decide +kernel
theorem dX11_passiveAt_24 : decode cX11_passiveAt 24 = .ok (.iload_n 1, 1) := by decide +kernel
theorem dX11_passiveAt_25 : decode cX11_passiveAt 25 = .ok (.imul, 1) := by decide +kernel
theorem dX11_passiveAt_26 : decode cX11_passiveAt 26 = .ok (.iadd, 1) := by decide +kernel
theorem dX11_passiveAt_27 : decode cX11_passiveAt 27 = .ok (.iload_n 3, 1) := by decide +kernel
theorem dX11_passiveAt_28 : decode cX11_passiveAt 28 = .ok (.iadd, 1) := by decide +kernel
theorem dX11_passiveAt_29 : decode cX11_passiveAt 29 = .ok (.iaload, 1) := by decide +kernel
theorem dX11_passiveAt_30 : decode cX11_passiveAt 30 = .ok (.iload_n 2, 1) := by decide +kernel
theorem dX11_passiveAt_31 : decode cX11_passiveAt 31 = .ok (.if_icmp .ne 5, 3) := by decide +kernel
theorem dX11_passiveAt_34 : decode cX11_passiveAt 34 = .ok (.iload_n 3, 1) := by decide +kernel
theorem dX11_passiveAt_35 : decode cX11_passiveAt 35 = .ok (.ireturn, 1) := by decide +kernel
theorem dX11_passiveAt_36 : decode cX11_passiveAt 36 = .ok (.iinc 3 1, 3) := by decide +kernel
theorem dX11_passiveAt_39 : decode cX11_passiveAt 39 = .ok (.goto (-37), 3) := by decide +kernel
theorem dX11_passiveAt_42 : decode cX11_passiveAt 42 = .ok (.iconst (-1), 1) := by decide +kernel
theorem dX11_passiveAt_43 : decode cX11_passiveAt 43 = .ok (.ireturn, 1) := by decide +kernel
theorem dX11_isActive_0 : decode cX11_isActive 0 = .ok (.aload_n 0, 1) := by decide +kernel
theorem dX11_isActive_1 : decode cX11_isActive 1 = .ok (.iload_n 1, 1) := by decide +kernel
theorem dX11_isActive_2 : decode cX11_isActive 2 = .ok (.iload_n 2, 1) := by decide +kernel
theorem dX11_isActive_3 : decode cX11_isActive 3 = .ok (.invokevirtual 79, 3) := by decide +kernel
theorem dX11_isActive_6 : decode cX11_isActive 6 = .ok (.ifCond .lt 7, 3) := by decide +kernel
theorem dX11_isActive_9 : decode cX11_isActive 9 = .ok (.iconst 1, 1) := by decide +kernel
theorem dX11_isActive_10 : decode cX11_isActive 10 = .ok (.goto 4, 3) := by decide +kernel
theorem dX11_isActive_13 : decode cX11_isActive 13 = .ok (.iconst 0, 1) := by decide +kernel
theorem dX11_isActive_14 : decode cX11_isActive 14 = .ok (.ireturn, 1) := by decide +kernel
theorem dX11_leavesPassive_0 : decode cX11_leavesPassive 0 = .ok (.aload_n 0, 1) := by decide +kernel
theorem dX11_leavesPassive_1 : decode cX11_leavesPassive 1 = .ok (.iload_n 1, 1) := by decide +kernel
theorem dX11_leavesPassive_2 : decode cX11_leavesPassive 2 = .ok (.iload_n 2, 1) := by decide +kernel
theorem dX11_leavesPassive_3 : decode cX11_leavesPassive 3 = .ok (.invokevirtual 82, 3) := by decide +kernel
theorem dX11_leavesPassive_6 : decode cX11_leavesPassive 6 = .ok (.istore_n 3, 1) := by decide +kernel
theorem dX11_leavesPassive_7 : decode cX11_leavesPassive 7 = .ok (.iload_n 3, 1) := by decide +kernel
theorem dX11_leavesPassive_8 : decode cX11_leavesPassive 8 = .ok (.ifCond .lt 73, 3) := by decide +kernel
theorem dX11_leavesPassive_11 : decode cX11_leavesPassive 11 = .ok (.aload_n 0, 1) := by decide +kernel
theorem dX11_leavesPassive_12 : decode cX11_leavesPassive 12 = .ok (.getfield 7, 3) := by decide +kernel
theorem dX11_leavesPassive_15 : decode cX11_leavesPassive 15 = .ok (.bipush 32, 2) := by decide +kernel
theorem dX11_leavesPassive_17 : decode cX11_leavesPassive 17 = .ok (.iload_n 1, 1) := by decide +kernel
theorem dX11_leavesPassive_18 : decode cX11_leavesPassive 18 = .ok (.iadd, 1) := by decide +kernel
theorem dX11_leavesPassive_19 : decode cX11_leavesPassive 19 = .ok (.dup2, 1) := by decide +kernel
theorem dX11_leavesPassive_20 : decode cX11_leavesPassive 20 = .ok (.iaload, 1) := by decide +kernel
theorem dX11_leavesPassive_21 : decode cX11_leavesPassive 21 = .ok (.iconst 1, 1) := by decide +kernel
theorem dX11_leavesPassive_22 : decode cX11_leavesPassive 22 = .ok (.isub, 1) := by decide +kernel
theorem dX11_leavesPassive_23 : decode cX11_leavesPassive 23 = .ok (.iastore, 1) := by decide +kernel
theorem dX11_leavesPassive_24 : decode cX11_leavesPassive 24 = .ok (.iload_n 3, 1) := by decide +kernel
theorem dX11_leavesPassive_25 : decode cX11_leavesPassive 25 = .ok (.istore 4, 2) := by decide +kernel
theorem dX11_leavesPassive_27 : decode cX11_leavesPassive 27 = .ok (.iload 4, 2) := by decide +kernel
theorem dX11_leavesPassive_29 : decode cX11_leavesPassive 29 = .ok (.aload_n 0, 1) := by decide +kernel
theorem dX11_leavesPassive_30 : decode cX11_leavesPassive 30 = .ok (.getfield 7, 3) := by decide +kernel
theorem dX11_leavesPassive_33 : decode cX11_leavesPassive 33 = .ok (.bipush 32, 2) := by decide +kernel
theorem dX11_leavesPassive_35 : decode cX11_leavesPassive 35 = .ok (.iload_n 1, 1) := by decide +kernel
theorem dX11_leavesPassive_36 : decode cX11_leavesPassive 36 = .ok (.iadd, 1) := by decide +kernel
theorem dX11_leavesPassive_37 : decode cX11_leavesPassive 37 = .ok (.iaload, 1) := by decide +kernel
theorem dX11_leavesPassive_38 : decode cX11_leavesPassive 38 = .ok (.if_icmp .ge 43, 3) := by decide +kernel
theorem dX11_leavesPassive_41 : decode cX11_leavesPassive 41 = .ok (.aload_n 0, 1) := by decide +kernel
theorem dX11_leavesPassive_42 : decode cX11_leavesPassive 42 = .ok (.getfield 7, 3) := by decide +kernel
theorem dX11_leavesPassive_45 : decode cX11_leavesPassive 45 = .ok (.sipush 256, 3) := by decide +kernel
theorem dX11_leavesPassive_48 : decode cX11_leavesPassive 48 = .ok (.bipush 8, 2) := by decide +kernel
theorem dX11_leavesPassive_50 : decode cX11_leavesPassive 50 = .ok (.iload_n 1, 1) := by decide +kernel
theorem dX11_leavesPassive_51 : decode cX11_leavesPassive 51 = .ok (.imul, 1) := by decide +kernel
theorem dX11_leavesPassive_52 : decode cX11_leavesPassive 52 = .ok (.iadd, 1) := by decide +kernel
theorem dX11_leavesPassive_53 : decode cX11_leavesPassive 53 = .ok (.iload 4, 2) := by decide +kernel
theorem dX11_leavesPassive_55 : decode cX11_leavesPassive 55 = .ok (.iadd, 1) := by decide +kernel
theorem dX11_leavesPassive_56 : decode cX11_leavesPassive 56 = .ok (.aload_n 0, 1) := by decide +kernel
theorem dX11_leavesPassive_57 : decode cX11_leavesPassive 57 = .ok (.getfield 7, 3) := by decide +kernel
theorem dX11_leavesPassive_60 : decode cX11_leavesPassive 60 = .ok (.sipush 256, 3) := by decide +kernel
theorem dX11_leavesPassive_63 : decode cX11_leavesPassive 63 = .ok (.bipush 8, 2) := by decide +kernel
theorem dX11_leavesPassive_65 : decode cX11_leavesPassive 65 = .ok (.iload_n 1, 1) := by decide +kernel
theorem dX11_leavesPassive_66 : decode cX11_leavesPassive 66 = .ok (.imul, 1) := by decide +kernel
theorem dX11_leavesPassive_67 : decode cX11_leavesPassive 67 = .ok (.iadd, 1) := by decide +kernel
theorem dX11_leavesPassive_68 : decode cX11_leavesPassive 68 = .ok (.iload 4, 2) := by decide +kernel
theorem dX11_leavesPassive_70 : decode cX11_leavesPassive 70 = .ok (.iadd, 1) := by decide +kernel
theorem dX11_leavesPassive_71 : decode cX11_leavesPassive 71 = .ok (.iconst 1, 1) := by decide +kernel
theorem dX11_leavesPassive_72 : decode cX11_leavesPassive 72 = .ok (.iadd, 1) := by decide +kernel
theorem dX11_leavesPassive_73 : decode cX11_leavesPassive 73 = .ok (.iaload, 1) := by decide +kernel
theorem dX11_leavesPassive_74 : decode cX11_leavesPassive 74 = .ok (.iastore, 1) := by decide +kernel
theorem dX11_leavesPassive_75 : decode cX11_leavesPassive 75 = .ok (.iinc 4 1, 3) := by decide +kernel
theorem dX11_leavesPassive_78 : decode cX11_leavesPassive 78 = .ok (.goto (-51), 3) := by decide +kernel
theorem dX11_leavesPassive_81 : decode cX11_leavesPassive 81 = .ok (.return_, 1) := by decide +kernel
theorem dX11_leavesActive_0 : decode cX11_leavesActive 0 = .ok (.aload_n 0, 1) := by decide +kernel
theorem dX11_leavesActive_1 : decode cX11_leavesActive 1 = .ok (.iload_n 1, 1) := by decide +kernel
theorem dX11_leavesActive_2 : decode cX11_leavesActive 2 = .ok (.iload_n 2, 1) := by decide +kernel
theorem dX11_leavesActive_3 : decode cX11_leavesActive 3 = .ok (.invokevirtual 79, 3) := by decide +kernel
theorem dX11_leavesActive_6 : decode cX11_leavesActive 6 = .ok (.istore_n 3, 1) := by decide +kernel
theorem dX11_leavesActive_7 : decode cX11_leavesActive 7 = .ok (.iload_n 3, 1) := by decide +kernel
theorem dX11_leavesActive_8 : decode cX11_leavesActive 8 = .ok (.ifCond .ge 4, 3) := by decide +kernel
theorem dX11_leavesActive_11 : decode cX11_leavesActive 11 = .ok (.return_, 1) := by decide +kernel
theorem dX11_leavesActive_12 : decode cX11_leavesActive 12 = .ok (.aload_n 0, 1) := by decide +kernel
theorem dX11_leavesActive_13 : decode cX11_leavesActive 13 = .ok (.getfield 7, 3) := by decide +kernel
theorem dX11_leavesActive_16 : decode cX11_leavesActive 16 = .ok (.bipush 16, 2) := by decide +kernel
theorem dX11_leavesActive_18 : decode cX11_leavesActive 18 = .ok (.iload_n 1, 1) := by decide +kernel
theorem dX11_leavesActive_19 : decode cX11_leavesActive 19 = .ok (.iadd, 1) := by decide +kernel
theorem dX11_leavesActive_20 : decode cX11_leavesActive 20 = .ok (.dup2, 1) := by decide +kernel
theorem dX11_leavesActive_21 : decode cX11_leavesActive 21 = .ok (.iaload, 1) := by decide +kernel
theorem dX11_leavesActive_22 : decode cX11_leavesActive 22 = .ok (.iconst 1, 1) := by decide +kernel
theorem dX11_leavesActive_23 : decode cX11_leavesActive 23 = .ok (.isub, 1) := by decide +kernel
theorem dX11_leavesActive_24 : decode cX11_leavesActive 24 = .ok (.iastore, 1) := by decide +kernel
theorem dX11_leavesActive_25 : decode cX11_leavesActive 25 = .ok (.iload_n 3, 1) := by decide +kernel
theorem dX11_leavesActive_26 : decode cX11_leavesActive 26 = .ok (.istore 4, 2) := by decide +kernel
theorem dX11_leavesActive_28 : decode cX11_leavesActive 28 = .ok (.iload 4, 2) := by decide +kernel
theorem dX11_leavesActive_30 : decode cX11_leavesActive 30 = .ok (.aload_n 0, 1) := by decide +kernel
theorem dX11_leavesActive_31 : decode cX11_leavesActive 31 = .ok (.getfield 7, 3) := by decide +kernel
theorem dX11_leavesActive_34 : decode cX11_leavesActive 34 = .ok (.bipush 16, 2) := by decide +kernel
theorem dX11_leavesActive_36 : decode cX11_leavesActive 36 = .ok (.iload_n 1, 1) := by decide +kernel
theorem dX11_leavesActive_37 : decode cX11_leavesActive 37 = .ok (.iadd, 1) := by decide +kernel
theorem dX11_leavesActive_38 : decode cX11_leavesActive 38 = .ok (.iaload, 1) := by decide +kernel
theorem dX11_leavesActive_39 : decode cX11_leavesActive 39 = .ok (.if_icmp .ge 71, 3) := by decide +kernel
theorem dX11_leavesActive_42 : decode cX11_leavesActive 42 = .ok (.aload_n 0, 1) := by decide +kernel
theorem dX11_leavesActive_43 : decode cX11_leavesActive 43 = .ok (.getfield 7, 3) := by decide +kernel
theorem dX11_leavesActive_46 : decode cX11_leavesActive 46 = .ok (.bipush 96, 2) := by decide +kernel
theorem dX11_leavesActive_48 : decode cX11_leavesActive 48 = .ok (.iconst 5, 1) := by decide +kernel
theorem dX11_leavesActive_49 : decode cX11_leavesActive 49 = .ok (.iload_n 1, 1) := by decide +kernel
theorem dX11_leavesActive_50 : decode cX11_leavesActive 50 = .ok (.imul, 1) := by decide +kernel
theorem dX11_leavesActive_51 : decode cX11_leavesActive 51 = .ok (.iadd, 1) := by decide +kernel
theorem dX11_leavesActive_52 : decode cX11_leavesActive 52 = .ok (.iload 4, 2) := by decide +kernel
theorem dX11_leavesActive_54 : decode cX11_leavesActive 54 = .ok (.iadd, 1) := by decide +kernel
theorem dX11_leavesActive_55 : decode cX11_leavesActive 55 = .ok (.aload_n 0, 1) := by decide +kernel
theorem dX11_leavesActive_56 : decode cX11_leavesActive 56 = .ok (.getfield 7, 3) := by decide +kernel
theorem dX11_leavesActive_59 : decode cX11_leavesActive 59 = .ok (.bipush 96, 2) := by decide +kernel
theorem dX11_leavesActive_61 : decode cX11_leavesActive 61 = .ok (.iconst 5, 1) := by decide +kernel
theorem dX11_leavesActive_62 : decode cX11_leavesActive 62 = .ok (.iload_n 1, 1) := by decide +kernel
theorem dX11_leavesActive_63 : decode cX11_leavesActive 63 = .ok (.imul, 1) := by decide +kernel
theorem dX11_leavesActive_64 : decode cX11_leavesActive 64 = .ok (.iadd, 1) := by decide +kernel
theorem dX11_leavesActive_65 : decode cX11_leavesActive 65 = .ok (.iload 4, 2) := by decide +kernel
theorem dX11_leavesActive_67 : decode cX11_leavesActive 67 = .ok (.iadd, 1) := by decide +kernel
theorem dX11_leavesActive_68 : decode cX11_leavesActive 68 = .ok (.iconst 1, 1) := by decide +kernel
theorem dX11_leavesActive_69 : decode cX11_leavesActive 69 = .ok (.iadd, 1) := by decide +kernel
theorem dX11_leavesActive_70 : decode cX11_leavesActive 70 = .ok (.iaload, 1) := by decide +kernel
theorem dX11_leavesActive_71 : decode cX11_leavesActive 71 = .ok (.iastore, 1) := by decide +kernel
theorem dX11_leavesActive_72 : decode cX11_leavesActive 72 = .ok (.aload_n 0, 1) := by decide +kernel
theorem dX11_leavesActive_73 : decode cX11_leavesActive 73 = .ok (.getfield 7, 3) := by decide +kernel
theorem dX11_leavesActive_76 : decode cX11_leavesActive 76 = .ok (.sipush 176, 3) := by decide +kernel
theorem dX11_leavesActive_79 : decode cX11_leavesActive 79 = .ok (.iconst 5, 1) := by decide +kernel
theorem dX11_leavesActive_80 : decode cX11_leavesActive 80 = .ok (.iload_n 1, 1) := by decide +kernel
theorem dX11_leavesActive_81 : decode cX11_leavesActive 81 = .ok (.imul, 1) := by decide +kernel
theorem dX11_leavesActive_82 : decode cX11_leavesActive 82 = .ok (.iadd, 1) := by decide +kernel
theorem dX11_leavesActive_83 : decode cX11_leavesActive 83 = .ok (.iload 4, 2) := by decide +kernel
theorem dX11_leavesActive_85 : decode cX11_leavesActive 85 = .ok (.iadd, 1) := by decide +kernel
theorem dX11_leavesActive_86 : decode cX11_leavesActive 86 = .ok (.aload_n 0, 1) := by decide +kernel
theorem dX11_leavesActive_87 : decode cX11_leavesActive 87 = .ok (.getfield 7, 3) := by decide +kernel
theorem dX11_leavesActive_90 : decode cX11_leavesActive 90 = .ok (.sipush 176, 3) := by decide +kernel
theorem dX11_leavesActive_93 : decode cX11_leavesActive 93 = .ok (.iconst 5, 1) := by decide +kernel
theorem dX11_leavesActive_94 : decode cX11_leavesActive 94 = .ok (.iload_n 1, 1) := by decide +kernel
theorem dX11_leavesActive_95 : decode cX11_leavesActive 95 = .ok (.imul, 1) := by decide +kernel
theorem dX11_leavesActive_96 : decode cX11_leavesActive 96 = .ok (.iadd, 1) := by decide +kernel
theorem dX11_leavesActive_97 : decode cX11_leavesActive 97 = .ok (.iload 4, 2) := by decide +kernel
theorem dX11_leavesActive_99 : decode cX11_leavesActive 99 = .ok (.iadd, 1) := by decide +kernel
theorem dX11_leavesActive_100 : decode cX11_leavesActive 100 = .ok (.iconst 1, 1) := by decide +kernel
theorem dX11_leavesActive_101 : decode cX11_leavesActive 101 = .ok (.iadd, 1) := by decide +kernel
theorem dX11_leavesActive_102 : decode cX11_leavesActive 102 = .ok (.iaload, 1) := by decide +kernel
theorem dX11_leavesActive_103 : decode cX11_leavesActive 103 = .ok (.iastore, 1) := by decide +kernel
theorem dX11_leavesActive_104 : decode cX11_leavesActive 104 = .ok (.iinc 4 1, 3) := by decide +kernel
theorem dX11_leavesActive_107 : decode cX11_leavesActive 107 = .ok (.goto (-79), 3) := by decide +kernel
theorem dX11_leavesActive_110 : decode cX11_leavesActive 110 = .ok (.iconst 0, 1) := by decide +kernel
theorem dX11_leavesActive_111 : decode cX11_leavesActive 111 = .ok (.istore 4, 2) := by decide +kernel
theorem dX11_leavesActive_113 : decode cX11_leavesActive 113 = .ok (.iload 4, 2) := by decide +kernel
theorem dX11_leavesActive_115 : decode cX11_leavesActive 115 = .ok (.bipush 24, 2) := by decide +kernel
theorem dX11_leavesActive_117 : decode cX11_leavesActive 117 = .ok (.if_icmp .ge 21, 3) := by decide +kernel
theorem dX11_leavesActive_120 : decode cX11_leavesActive 120 = .ok (.aload_n 0, 1) := by decide +kernel
theorem dX11_leavesActive_121 : decode cX11_leavesActive 121 = .ok (.bipush 24, 2) := by decide +kernel
theorem dX11_leavesActive_123 : decode cX11_leavesActive 123 = .ok (.iload_n 1, 1) := by decide +kernel
theorem dX11_leavesActive_124 : decode cX11_leavesActive 124 = .ok (.imul, 1) := by decide +kernel
theorem dX11_leavesActive_125 : decode cX11_leavesActive 125 = .ok (.iload 4, 2) := by decide +kernel
theorem dX11_leavesActive_127 : decode cX11_leavesActive 127 = .ok (.iadd, 1) := by decide +kernel
theorem dX11_leavesActive_128 : decode cX11_leavesActive 128 = .ok (.iload_n 2, 1) := by decide +kernel
theorem dX11_leavesActive_129 : decode cX11_leavesActive 129 = .ok (.invokevirtual 85, 3) := by decide +kernel
theorem dX11_leavesActive_132 : decode cX11_leavesActive 132 = .ok (.iinc 4 1, 3) := by decide +kernel
theorem dX11_leavesActive_135 : decode cX11_leavesActive 135 = .ok (.goto (-22), 3) := by decide +kernel
theorem dX11_leavesActive_138 : decode cX11_leavesActive 138 = .ok (.return_, 1) := by decide +kernel
theorem dX11_forgetTeller_0 : decode cX11_forgetTeller 0 = .ok (.iconst 0, 1) := by decide +kernel
theorem dX11_forgetTeller_1 : decode cX11_forgetTeller 1 = .ok (.istore_n 3, 1) := by decide +kernel
theorem dX11_forgetTeller_2 : decode cX11_forgetTeller 2 = .ok (.iconst 0, 1) := by decide +kernel
theorem dX11_forgetTeller_3 : decode cX11_forgetTeller 3 = .ok (.istore 4, 2) := by decide +kernel
theorem dX11_forgetTeller_5 : decode cX11_forgetTeller 5 = .ok (.iload 4, 2) := by decide +kernel
theorem dX11_forgetTeller_7 : decode cX11_forgetTeller 7 = .ok (.aload_n 0, 1) := by decide +kernel
theorem dX11_forgetTeller_8 : decode cX11_forgetTeller 8 = .ok (.getfield 7, 3) := by decide +kernel
theorem dX11_forgetTeller_11 : decode cX11_forgetTeller 11 = .ok (.sipush 1536, 3) := by decide +kernel
theorem dX11_forgetTeller_14 : decode cX11_forgetTeller 14 = .ok (.iload_n 1, 1) := by decide +kernel
theorem dX11_forgetTeller_15 : decode cX11_forgetTeller 15 = .ok (.iadd, 1) := by decide +kernel
theorem dX11_forgetTeller_16 : decode cX11_forgetTeller 16 = .ok (.iaload, 1) := by decide +kernel
theorem dX11_forgetTeller_17 : decode cX11_forgetTeller 17 = .ok (.if_icmp .ge 53, 3) := by decide +kernel
theorem dX11_forgetTeller_20 : decode cX11_forgetTeller 20 = .ok (.aload_n 0, 1) := by decide +kernel
theorem dX11_forgetTeller_21 : decode cX11_forgetTeller 21 = .ok (.getfield 7, 3) := by decide +kernel
theorem dX11_forgetTeller_24 : decode cX11_forgetTeller 24 = .ok (.sipush 1920, 3) := by decide +kernel
theorem dX11_forgetTeller_27 : decode cX11_forgetTeller 27 = .ok (.bipush 8, 2) := by decide +kernel
theorem dX11_forgetTeller_29 : decode cX11_forgetTeller 29 = .ok (.iload_n 1, 1) := by decide +kernel
theorem dX11_forgetTeller_30 : decode cX11_forgetTeller 30 = .ok (.imul, 1) := by decide +kernel
theorem dX11_forgetTeller_31 : decode cX11_forgetTeller 31 = .ok (.iadd, 1) := by decide +kernel
theorem dX11_forgetTeller_32 : decode cX11_forgetTeller 32 = .ok (.iload 4, 2) := by decide +kernel
theorem dX11_forgetTeller_34 : decode cX11_forgetTeller 34 = .ok (.iadd, 1) := by decide +kernel
theorem dX11_forgetTeller_35 : decode cX11_forgetTeller 35 = .ok (.iaload, 1) := by decide +kernel
theorem dX11_forgetTeller_36 : decode cX11_forgetTeller 36 = .ok (.istore 5, 2) := by decide +kernel
theorem dX11_forgetTeller_38 : decode cX11_forgetTeller 38 = .ok (.iload 5, 2) := by decide +kernel
theorem dX11_forgetTeller_40 : decode cX11_forgetTeller 40 = .ok (.iload_n 2, 1) := by decide +kernel
theorem dX11_forgetTeller_41 : decode cX11_forgetTeller 41 = .ok (.if_icmp .eq 23, 3) := by decide +kernel
theorem dX11_forgetTeller_44 : decode cX11_forgetTeller 44 = .ok (.aload_n 0, 1) := by decide +kernel
theorem dX11_forgetTeller_45 : decode cX11_forgetTeller 45 = .ok (.getfield 7, 3) := by decide +kernel
theorem dX11_forgetTeller_48 : decode cX11_forgetTeller 48 = .ok (.sipush 1920, 3) := by decide +kernel
theorem dX11_forgetTeller_51 : decode cX11_forgetTeller 51 = .ok (.bipush 8, 2) := by decide +kernel
theorem dX11_forgetTeller_53 : decode cX11_forgetTeller 53 = .ok (.iload_n 1, 1) := by decide +kernel
theorem dX11_forgetTeller_54 : decode cX11_forgetTeller 54 = .ok (.imul, 1) := by decide +kernel
theorem dX11_forgetTeller_55 : decode cX11_forgetTeller 55 = .ok (.iadd, 1) := by decide +kernel
theorem dX11_forgetTeller_56 : decode cX11_forgetTeller 56 = .ok (.iload_n 3, 1) := by decide +kernel
theorem dX11_forgetTeller_57 : decode cX11_forgetTeller 57 = .ok (.iadd, 1) := by decide +kernel
theorem dX11_forgetTeller_58 : decode cX11_forgetTeller 58 = .ok (.iload 5, 2) := by decide +kernel
theorem dX11_forgetTeller_60 : decode cX11_forgetTeller 60 = .ok (.iastore, 1) := by decide +kernel
theorem dX11_forgetTeller_61 : decode cX11_forgetTeller 61 = .ok (.iinc 3 1, 3) := by decide +kernel
theorem dX11_forgetTeller_64 : decode cX11_forgetTeller 64 = .ok (.iinc 4 1, 3) := by decide +kernel
theorem dX11_forgetTeller_67 : decode cX11_forgetTeller 67 = .ok (.goto (-62), 3) := by decide +kernel
theorem dX11_forgetTeller_70 : decode cX11_forgetTeller 70 = .ok (.aload_n 0, 1) := by decide +kernel
theorem dX11_forgetTeller_71 : decode cX11_forgetTeller 71 = .ok (.getfield 7, 3) := by decide +kernel
theorem dX11_forgetTeller_74 : decode cX11_forgetTeller 74 = .ok (.sipush 1536, 3) := by decide +kernel
theorem dX11_forgetTeller_77 : decode cX11_forgetTeller 77 = .ok (.iload_n 1, 1) := by decide +kernel
theorem dX11_forgetTeller_78 : decode cX11_forgetTeller 78 = .ok (.iadd, 1) := by decide +kernel
theorem dX11_forgetTeller_79 : decode cX11_forgetTeller 79 = .ok (.iload_n 3, 1) := by decide +kernel
theorem dX11_forgetTeller_80 : decode cX11_forgetTeller 80 = .ok (.iastore, 1) := by decide +kernel
theorem dX11_forgetTeller_81 : decode cX11_forgetTeller 81 = .ok (.return_, 1) := by decide +kernel
theorem dX11_setLazy_0 : decode cX11_setLazy 0 = .ok (.aload_n 0, 1) := by decide +kernel
theorem dX11_setLazy_1 : decode cX11_setLazy 1 = .ok (.iload_n 1, 1) := by decide +kernel
theorem dX11_setLazy_2 : decode cX11_setLazy 2 = .ok (.iload_n 2, 1) := by decide +kernel
theorem dX11_setLazy_3 : decode cX11_setLazy 3 = .ok (.invokevirtual 79, 3) := by decide +kernel
theorem dX11_setLazy_6 : decode cX11_setLazy 6 = .ok (.istore 4, 2) := by decide +kernel
theorem dX11_setLazy_8 : decode cX11_setLazy 8 = .ok (.iload 4, 2) := by decide +kernel
theorem dX11_setLazy_10 : decode cX11_setLazy 10 = .ok (.ifCond .lt 19, 3) := by decide +kernel
theorem dX11_setLazy_13 : decode cX11_setLazy 13 = .ok (.aload_n 0, 1) := by decide +kernel
theorem dX11_setLazy_14 : decode cX11_setLazy 14 = .ok (.getfield 7, 3) := by decide +kernel
theorem dX11_setLazy_17 : decode cX11_setLazy 17 = .ok (.sipush 176, 3) := by decide +kernel
theorem dX11_setLazy_20 : decode cX11_setLazy 20 = .ok (.iconst 5, 1) := by decide +kernel
theorem dX11_setLazy_21 : decode cX11_setLazy 21 = .ok (.iload_n 1, 1) := by decide +kernel
theorem dX11_setLazy_22 : decode cX11_setLazy 22 = .ok (.imul, 1) := by decide +kernel
theorem dX11_setLazy_23 : decode cX11_setLazy 23 = .ok (.iadd, 1) := by decide +kernel
theorem dX11_setLazy_24 : decode cX11_setLazy 24 = .ok (.iload 4, 2) := by decide +kernel
theorem dX11_setLazy_26 : decode cX11_setLazy 26 = .ok (.iadd, 1) := by decide +kernel
theorem dX11_setLazy_27 : decode cX11_setLazy 27 = .ok (.iload_n 3, 1) := by decide +kernel
theorem dX11_setLazy_28 : decode cX11_setLazy 28 = .ok (.iastore, 1) := by decide +kernel
theorem dX11_setLazy_29 : decode cX11_setLazy 29 = .ok (.return_, 1) := by decide +kernel
theorem dX11_note_0 : decode cX11_note 0 = .ok (.iload_n 2, 1) := by decide +kernel
theorem dX11_note_1 : decode cX11_note 1 = .ok (.iload_n 1, 1) := by decide +kernel
theorem dX11_note_2 : decode cX11_note 2 = .ok (.if_icmp .eq 21, 3) := by decide +kernel
theorem dX11_note_5 : decode cX11_note 5 = .ok (.aload_n 0, 1) := by decide +kernel
theorem dX11_note_6 : decode cX11_note 6 = .ok (.iload_n 1, 1) := by decide +kernel
theorem dX11_note_7 : decode cX11_note 7 = .ok (.iload_n 2, 1) := by decide +kernel
theorem dX11_note_8 : decode cX11_note 8 = .ok (.invokevirtual 89, 3) := by decide +kernel
theorem dX11_note_11 : decode cX11_note 11 = .ok (.ifCond .ne 12, 3) := by decide +kernel
theorem dX11_note_14 : decode cX11_note 14 = .ok (.aload_n 0, 1) := by decide +kernel
theorem dX11_note_15 : decode cX11_note 15 = .ok (.iload_n 1, 1) := by decide +kernel
theorem dX11_note_16 : decode cX11_note 16 = .ok (.iload_n 2, 1) := by decide +kernel
theorem dX11_note_17 : decode cX11_note 17 = .ok (.invokevirtual 82, 3) := by decide +kernel
theorem dX11_note_20 : decode cX11_note 20 = .ok (.ifCond .lt 4, 3) := by decide +kernel
theorem dX11_note_23 : decode cX11_note 23 = .ok (.return_, 1) := by decide +kernel
theorem dX11_note_24 : decode cX11_note 24 = .ok (.aload_n 0, 1) := by decide +kernel
theorem dX11_note_25 : decode cX11_note 25 = .ok (.getfield 7, 3) := by decide +kernel
theorem dX11_note_28 : decode cX11_note 28 = .ok (.bipush 32, 2) := by decide +kernel
theorem dX11_note_30 : decode cX11_note 30 = .ok (.iload_n 1, 1) := by decide +kernel
theorem dX11_note_31 : decode cX11_note 31 = .ok (.iadd, 1) := by decide +kernel
theorem dX11_note_32 : decode cX11_note 32 = .ok (.iaload, 1) := by decide +kernel
theorem dX11_note_33 : decode cX11_note 33 = .ok (.aload_n 0, 1) := by decide +kernel
theorem dX11_note_34 : decode cX11_note 34 = .ok (.getfield 17, 3) := by decide +kernel
theorem dX11_note_37 : decode cX11_note 37 = .ok (.if_icmp .ne 30, 3) := by decide +kernel
theorem dX11_note_40 : decode cX11_note 40 = .ok (.aload_n 0, 1) := by decide +kernel
theorem dX11_note_41 : decode cX11_note 41 = .ok (.iload_n 1, 1) := by decide +kernel
theorem dX11_note_42 : decode cX11_note 42 = .ok (.aload_n 0, 1) := by decide +kernel
theorem dX11_note_43 : decode cX11_note 43 = .ok (.getfield 7, 3) := by decide +kernel
theorem dX11_note_46 : decode cX11_note 46 = .ok (.sipush 256, 3) := by decide +kernel
theorem dX11_note_49 : decode cX11_note 49 = .ok (.bipush 8, 2) := by decide +kernel
theorem dX11_note_51 : decode cX11_note 51 = .ok (.iload_n 1, 1) := by decide +kernel
theorem dX11_note_52 : decode cX11_note 52 = .ok (.imul, 1) := by decide +kernel
theorem dX11_note_53 : decode cX11_note 53 = .ok (.iadd, 1) := by decide +kernel
theorem dX11_note_54 : decode cX11_note 54 = .ok (.aload_n 0, 1) := by decide +kernel
theorem dX11_note_55 : decode cX11_note 55 = .ok (.aload_n 0, 1) := by decide +kernel
theorem dX11_note_56 : decode cX11_note 56 = .ok (.getfield 17, 3) := by decide +kernel
theorem dX11_note_59 : decode cX11_note 59 = .ok (.invokevirtual 93, 3) := by decide +kernel
theorem dX11_note_62 : decode cX11_note 62 = .ok (.iadd, 1) := by decide +kernel
theorem dX11_note_63 : decode cX11_note 63 = .ok (.iaload, 1) := by decide +kernel
theorem dX11_note_64 : decode cX11_note 64 = .ok (.invokevirtual 97, 3) := by decide +kernel
theorem dX11_note_67 : decode cX11_note 67 = .ok (.aload_n 0, 1) := by decide +kernel
theorem dX11_note_68 : decode cX11_note 68 = .ok (.getfield 7, 3) := by decide +kernel
theorem dX11_note_71 : decode cX11_note 71 = .ok (.sipush 256, 3) := by decide +kernel
theorem dX11_note_74 : decode cX11_note 74 = .ok (.bipush 8, 2) := by decide +kernel
theorem dX11_note_76 : decode cX11_note 76 = .ok (.iload_n 1, 1) := by decide +kernel
theorem dX11_note_77 : decode cX11_note 77 = .ok (.imul, 1) := by decide +kernel
theorem dX11_note_78 : decode cX11_note 78 = .ok (.iadd, 1) := by decide +kernel
theorem dX11_note_79 : decode cX11_note 79 = .ok (.aload_n 0, 1) := by decide +kernel
theorem dX11_note_80 : decode cX11_note 80 = .ok (.getfield 7, 3) := by decide +kernel
theorem dX11_note_83 : decode cX11_note 83 = .ok (.bipush 32, 2) := by decide +kernel
theorem dX11_note_85 : decode cX11_note 85 = .ok (.iload_n 1, 1) := by decide +kernel
theorem dX11_note_86 : decode cX11_note 86 = .ok (.iadd, 1) := by decide +kernel
theorem dX11_note_87 : decode cX11_note 87 = .ok (.iaload, 1) := by decide +kernel
theorem dX11_note_88 : decode cX11_note 88 = .ok (.iadd, 1) := by decide +kernel
theorem dX11_note_89 : decode cX11_note 89 = .ok (.iload_n 2, 1) := by decide +kernel
theorem dX11_note_90 : decode cX11_note 90 = .ok (.iastore, 1) := by decide +kernel
theorem dX11_note_91 : decode cX11_note 91 = .ok (.aload_n 0, 1) := by decide +kernel
theorem dX11_note_92 : decode cX11_note 92 = .ok (.getfield 7, 3) := by decide +kernel
theorem dX11_note_95 : decode cX11_note 95 = .ok (.bipush 32, 2) := by decide +kernel
theorem dX11_note_97 : decode cX11_note 97 = .ok (.iload_n 1, 1) := by decide +kernel
theorem dX11_note_98 : decode cX11_note 98 = .ok (.iadd, 1) := by decide +kernel
theorem dX11_note_99 : decode cX11_note 99 = .ok (.dup2, 1) := by decide +kernel
theorem dX11_note_100 : decode cX11_note 100 = .ok (.iaload, 1) := by decide +kernel
theorem dX11_note_101 : decode cX11_note 101 = .ok (.iconst 1, 1) := by decide +kernel
theorem dX11_note_102 : decode cX11_note 102 = .ok (.iadd, 1) := by decide +kernel
theorem dX11_note_103 : decode cX11_note 103 = .ok (.iastore, 1) := by decide +kernel
theorem dX11_note_104 : decode cX11_note 104 = .ok (.return_, 1) := by decide +kernel
theorem dX11_add_0 : decode cX11_add 0 = .ok (.iload_n 2, 1) := by decide +kernel
theorem dX11_add_1 : decode cX11_add 1 = .ok (.iload_n 1, 1) := by decide +kernel
theorem dX11_add_2 : decode cX11_add 2 = .ok (.if_icmp .eq 12, 3) := by decide +kernel
theorem dX11_add_5 : decode cX11_add 5 = .ok (.aload_n 0, 1) := by decide +kernel
theorem dX11_add_6 : decode cX11_add 6 = .ok (.iload_n 1, 1) := by decide +kernel
theorem dX11_add_7 : decode cX11_add 7 = .ok (.iload_n 2, 1) := by decide +kernel
theorem dX11_add_8 : decode cX11_add 8 = .ok (.invokevirtual 89, 3) := by decide +kernel
theorem dX11_add_11 : decode cX11_add 11 = .ok (.ifCond .eq 4, 3) := by decide +kernel
theorem dX11_add_14 : decode cX11_add 14 = .ok (.return_, 1) := by decide +kernel
theorem dX11_add_15 : decode cX11_add 15 = .ok (.aload_n 0, 1) := by decide +kernel
theorem dX11_add_16 : decode cX11_add 16 = .ok (.iload_n 1, 1) := by decide +kernel
theorem dX11_add_17 : decode cX11_add 17 = .ok (.iload_n 2, 1) := by decide +kernel
theorem dX11_add_18 : decode cX11_add 18 = .ok (.invokevirtual 97, 3) := by decide +kernel
theorem dX11_add_21 : decode cX11_add 21 = .ok (.aload_n 0, 1) := by decide +kernel
theorem dX11_add_22 : decode cX11_add 22 = .ok (.getfield 7, 3) := by decide +kernel
theorem dX11_add_25 : decode cX11_add 25 = .ok (.bipush 16, 2) := by decide +kernel
theorem dX11_add_27 : decode cX11_add 27 = .ok (.iload_n 1, 1) := by decide +kernel
theorem dX11_add_28 : decode cX11_add 28 = .ok (.iadd, 1) := by decide +kernel
theorem dX11_add_29 : decode cX11_add 29 = .ok (.iaload, 1) := by decide +kernel
theorem dX11_add_30 : decode cX11_add 30 = .ok (.aload_n 0, 1) := by decide +kernel
theorem dX11_add_31 : decode cX11_add 31 = .ok (.getfield 13, 3) := by decide +kernel
theorem dX11_add_34 : decode cX11_add 34 = .ok (.if_icmp .ne 45, 3) := by decide +kernel
theorem dX11_add_37 : decode cX11_add 37 = .ok (.aload_n 0, 1) := by decide +kernel
theorem dX11_add_38 : decode cX11_add 38 = .ok (.getfield 7, 3) := by decide +kernel
theorem dX11_add_41 : decode cX11_add 41 = .ok (.bipush 96, 2) := by decide +kernel
theorem dX11_add_43 : decode cX11_add 43 = .ok (.iconst 5, 1) := by decide +kernel
theorem dX11_add_44 : decode cX11_add 44 = .ok (.iload_n 1, 1) := by decide +kernel
theorem dX11_add_45 : decode cX11_add 45 = .ok (.imul, 1) := by decide +kernel
theorem dX11_add_46 : decode cX11_add 46 = .ok (.iadd, 1) := by decide +kernel
theorem dX11_add_47 : decode cX11_add 47 = .ok (.aload_n 0, 1) := by decide +kernel
theorem dX11_add_48 : decode cX11_add 48 = .ok (.aload_n 0, 1) := by decide +kernel
theorem dX11_add_49 : decode cX11_add 49 = .ok (.getfield 13, 3) := by decide +kernel
theorem dX11_add_52 : decode cX11_add 52 = .ok (.invokevirtual 93, 3) := by decide +kernel
theorem dX11_add_55 : decode cX11_add 55 = .ok (.iadd, 1) := by decide +kernel
theorem dX11_add_56 : decode cX11_add 56 = .ok (.iaload, 1) := by decide +kernel
theorem dX11_add_57 : decode cX11_add 57 = .ok (.istore_n 3, 1) := by decide +kernel
theorem dX11_add_58 : decode cX11_add 58 = .ok (.aload_n 0, 1) := by decide +kernel
theorem dX11_add_59 : decode cX11_add 59 = .ok (.iload_n 1, 1) := by decide +kernel
theorem dX11_add_60 : decode cX11_add 60 = .ok (.iload_n 3, 1) := by decide +kernel
theorem dX11_add_61 : decode cX11_add 61 = .ok (.iconst 4, 1) := by decide +kernel
theorem dX11_add_62 : decode cX11_add 62 = .ok (.iconst 0, 1) := by decide +kernel
theorem dX11_add_63 : decode cX11_add 63 = .ok (.iconst 0, 1) := by decide +kernel
theorem dX11_add_64 : decode cX11_add 64 = .ok (.invokevirtual 100, 3) := by decide +kernel
theorem dX11_add_67 : decode cX11_add 67 = .ok (.aload_n 0, 1) := by decide +kernel
theorem dX11_add_68 : decode cX11_add 68 = .ok (.iload_n 1, 1) := by decide +kernel
theorem dX11_add_69 : decode cX11_add 69 = .ok (.iload_n 3, 1) := by decide +kernel
theorem dX11_add_70 : decode cX11_add 70 = .ok (.invokevirtual 104, 3) := by decide +kernel
theorem dX11_add_73 : decode cX11_add 73 = .ok (.aload_n 0, 1) := by decide +kernel
theorem dX11_add_74 : decode cX11_add 74 = .ok (.iload_n 1, 1) := by decide +kernel
theorem dX11_add_75 : decode cX11_add 75 = .ok (.iload_n 3, 1) := by decide +kernel
theorem dX11_add_76 : decode cX11_add 76 = .ok (.invokevirtual 107, 3) := by decide +kernel
theorem dX11_add_79 : decode cX11_add 79 = .ok (.aload_n 0, 1) := by decide +kernel
theorem dX11_add_80 : decode cX11_add 80 = .ok (.getfield 7, 3) := by decide +kernel
theorem dX11_add_83 : decode cX11_add 83 = .ok (.bipush 96, 2) := by decide +kernel
theorem dX11_add_85 : decode cX11_add 85 = .ok (.iconst 5, 1) := by decide +kernel
theorem dX11_add_86 : decode cX11_add 86 = .ok (.iload_n 1, 1) := by decide +kernel
theorem dX11_add_87 : decode cX11_add 87 = .ok (.imul, 1) := by decide +kernel
theorem dX11_add_88 : decode cX11_add 88 = .ok (.iadd, 1) := by decide +kernel
theorem dX11_add_89 : decode cX11_add 89 = .ok (.aload_n 0, 1) := by decide +kernel
theorem dX11_add_90 : decode cX11_add 90 = .ok (.getfield 7, 3) := by decide +kernel
theorem dX11_add_93 : decode cX11_add 93 = .ok (.bipush 16, 2) := by decide +kernel
theorem dX11_add_95 : decode cX11_add 95 = .ok (.iload_n 1, 1) := by decide +kernel
theorem dX11_add_96 : decode cX11_add 96 = .ok (.iadd, 1) := by decide +kernel
theorem dX11_add_97 : decode cX11_add 97 = .ok (.iaload, 1) := by decide +kernel
theorem dX11_add_98 : decode cX11_add 98 = .ok (.iadd, 1) := by decide +kernel
theorem dX11_add_99 : decode cX11_add 99 = .ok (.iload_n 2, 1) := by decide +kernel
theorem dX11_add_100 : decode cX11_add 100 = .ok (.iastore, 1) := by decide +kernel
theorem dX11_add_101 : decode cX11_add 101 = .ok (.aload_n 0, 1) := by decide +kernel
theorem dX11_add_102 : decode cX11_add 102 = .ok (.getfield 7, 3) := by decide +kernel
theorem dX11_add_105 : decode cX11_add 105 = .ok (.sipush 176, 3) := by decide +kernel
theorem dX11_add_108 : decode cX11_add 108 = .ok (.iconst 5, 1) := by decide +kernel
theorem dX11_add_109 : decode cX11_add 109 = .ok (.iload_n 1, 1) := by decide +kernel
theorem dX11_add_110 : decode cX11_add 110 = .ok (.imul, 1) := by decide +kernel
theorem dX11_add_111 : decode cX11_add 111 = .ok (.iadd, 1) := by decide +kernel
theorem dX11_add_112 : decode cX11_add 112 = .ok (.aload_n 0, 1) := by decide +kernel
theorem dX11_add_113 : decode cX11_add 113 = .ok (.getfield 7, 3) := by decide +kernel
theorem dX11_add_116 : decode cX11_add 116 = .ok (.bipush 16, 2) := by decide +kernel
theorem dX11_add_118 : decode cX11_add 118 = .ok (.iload_n 1, 1) := by decide +kernel
theorem dX11_add_119 : decode cX11_add 119 = .ok (.iadd, 1) := by decide +kernel
theorem dX11_add_120 : decode cX11_add 120 = .ok (.iaload, 1) := by decide +kernel
theorem dX11_add_121 : decode cX11_add 121 = .ok (.iadd, 1) := by decide +kernel
theorem dX11_add_122 : decode cX11_add 122 = .ok (.iconst 0, 1) := by decide +kernel
theorem dX11_add_123 : decode cX11_add 123 = .ok (.iastore, 1) := by decide +kernel
theorem dX11_add_124 : decode cX11_add 124 = .ok (.aload_n 0, 1) := by decide +kernel
theorem dX11_add_125 : decode cX11_add 125 = .ok (.getfield 7, 3) := by decide +kernel
theorem dX11_add_128 : decode cX11_add 128 = .ok (.bipush 16, 2) := by decide +kernel
theorem dX11_add_130 : decode cX11_add 130 = .ok (.iload_n 1, 1) := by decide +kernel
theorem dX11_add_131 : decode cX11_add 131 = .ok (.iadd, 1) := by decide +kernel
theorem dX11_add_132 : decode cX11_add 132 = .ok (.dup2, 1) := by decide +kernel
theorem dX11_add_133 : decode cX11_add 133 = .ok (.iaload, 1) := by decide +kernel
theorem dX11_add_134 : decode cX11_add 134 = .ok (.iconst 1, 1) := by decide +kernel
theorem dX11_add_135 : decode cX11_add 135 = .ok (.iadd, 1) := by decide +kernel
theorem dX11_add_136 : decode cX11_add 136 = .ok (.iastore, 1) := by decide +kernel
theorem dX11_add_137 : decode cX11_add 137 = .ok (.aload_n 0, 1) := by decide +kernel
theorem dX11_add_138 : decode cX11_add 138 = .ok (.getfield 7, 3) := by decide +kernel
theorem dX11_add_141 : decode cX11_add 141 = .ok (.bipush 48, 2) := by decide +kernel
theorem dX11_add_143 : decode cX11_add 143 = .ok (.iload_n 1, 1) := by decide +kernel
theorem dX11_add_144 : decode cX11_add 144 = .ok (.iadd, 1) := by decide +kernel
theorem dX11_add_145 : decode cX11_add 145 = .ok (.iaload, 1) := by decide +kernel
theorem dX11_add_146 : decode cX11_add 146 = .ok (.iload_n 2, 1) := by decide +kernel
theorem dX11_add_147 : decode cX11_add 147 = .ok (.if_icmp .ne 14, 3) := by decide +kernel
theorem dX11_add_150 : decode cX11_add 150 = .ok (.aload_n 0, 1) := by decide +kernel
theorem dX11_add_151 : decode cX11_add 151 = .ok (.getfield 7, 3) := by decide +kernel
theorem dX11_add_154 : decode cX11_add 154 = .ok (.bipush 48, 2) := by decide +kernel
theorem dX11_add_156 : decode cX11_add 156 = .ok (.iload_n 1, 1) := by decide +kernel
theorem dX11_add_157 : decode cX11_add 157 = .ok (.iadd, 1) := by decide +kernel
theorem dX11_add_158 : decode cX11_add 158 = .ok (.bipush (-6), 2) := by decide +kernel
theorem dX11_add_160 : decode cX11_add 160 = .ok (.iastore, 1) := by decide +kernel
theorem dX11_add_161 : decode cX11_add 161 = .ok (.return_, 1) := by decide +kernel
theorem dX11_mend_0 : decode cX11_mend 0 = .ok (.aload_n 0, 1) := by decide +kernel
theorem dX11_mend_1 : decode cX11_mend 1 = .ok (.getfield 7, 3) := by decide +kernel
theorem dX11_mend_4 : decode cX11_mend 4 = .ok (.bipush 16, 2) := by decide +kernel
theorem dX11_mend_6 : decode cX11_mend 6 = .ok (.iload_n 1, 1) := by decide +kernel
theorem dX11_mend_7 : decode cX11_mend 7 = .ok (.iadd, 1) := by decide +kernel
theorem dX11_mend_8 : decode cX11_mend 8 = .ok (.iaload, 1) := by decide +kernel
theorem dX11_mend_9 : decode cX11_mend 9 = .ok (.aload_n 0, 1) := by decide +kernel
theorem dX11_mend_10 : decode cX11_mend 10 = .ok (.getfield 13, 3) := by decide +kernel
theorem dX11_mend_13 : decode cX11_mend 13 = .ok (.if_icmp .eq 15, 3) := by decide +kernel
theorem dX11_mend_16 : decode cX11_mend 16 = .ok (.aload_n 0, 1) := by decide +kernel
theorem dX11_mend_17 : decode cX11_mend 17 = .ok (.getfield 7, 3) := by decide +kernel
theorem dX11_mend_20 : decode cX11_mend 20 = .ok (.bipush 48, 2) := by decide +kernel
theorem dX11_mend_22 : decode cX11_mend 22 = .ok (.iload_n 1, 1) := by decide +kernel
theorem dX11_mend_23 : decode cX11_mend 23 = .ok (.iadd, 1) := by decide +kernel
theorem dX11_mend_24 : decode cX11_mend 24 = .ok (.iaload, 1) := by decide +kernel
theorem dX11_mend_25 : decode cX11_mend 25 = .ok (.ifCond .lt 4, 3) := by decide +kernel
theorem dX11_mend_28 : decode cX11_mend 28 = .ok (.return_, 1) := by decide +kernel
theorem dX11_mend_29 : decode cX11_mend 29 = .ok (.iconst 0, 1) := by decide +kernel
theorem dX11_mend_30 : decode cX11_mend 30 = .ok (.istore_n 2, 1) := by decide +kernel
theorem dX11_mend_31 : decode cX11_mend 31 = .ok (.iconst 0, 1) := by decide +kernel
theorem dX11_mend_32 : decode cX11_mend 32 = .ok (.istore_n 3, 1) := by decide +kernel
theorem dX11_mend_33 : decode cX11_mend 33 = .ok (.iload_n 3, 1) := by decide +kernel
theorem dX11_mend_34 : decode cX11_mend 34 = .ok (.aload_n 0, 1) := by decide +kernel
theorem dX11_mend_35 : decode cX11_mend 35 = .ok (.getfield 7, 3) := by decide +kernel
theorem dX11_mend_38 : decode cX11_mend 38 = .ok (.bipush 32, 2) := by decide +kernel
theorem dX11_mend_40 : decode cX11_mend 40 = .ok (.iload_n 1, 1) := by decide +kernel
theorem dX11_mend_41 : decode cX11_mend 41 = .ok (.iadd, 1) := by decide +kernel
theorem dX11_mend_42 : decode cX11_mend 42 = .ok (.iaload, 1) := by decide +kernel
theorem dX11_mend_43 : decode cX11_mend 43 = .ok (.if_icmp .ge 54, 3) := by decide +kernel
theorem dX11_mend_46 : decode cX11_mend 46 = .ok (.aload_n 0, 1) := by decide +kernel
theorem dX11_mend_47 : decode cX11_mend 47 = .ok (.getfield 7, 3) := by decide +kernel
theorem dX11_mend_50 : decode cX11_mend 50 = .ok (.sipush 256, 3) := by decide +kernel
theorem dX11_mend_53 : decode cX11_mend 53 = .ok (.bipush 8, 2) := by decide +kernel
theorem dX11_mend_55 : decode cX11_mend 55 = .ok (.iload_n 1, 1) := by decide +kernel
theorem dX11_mend_56 : decode cX11_mend 56 = .ok (.imul, 1) := by decide +kernel
theorem dX11_mend_57 : decode cX11_mend 57 = .ok (.iadd, 1) := by decide +kernel
theorem dX11_mend_58 : decode cX11_mend 58 = .ok (.iload_n 3, 1) := by decide +kernel
theorem dX11_mend_59 : decode cX11_mend 59 = .ok (.iadd, 1) := by decide +kernel
theorem dX11_mend_60 : decode cX11_mend 60 = .ok (.iaload, 1) := by decide +kernel
theorem dX11_mend_61 : decode cX11_mend 61 = .ok (.istore 4, 2) := by decide +kernel
theorem dX11_mend_63 : decode cX11_mend 63 = .ok (.aload_n 0, 1) := by decide +kernel
theorem dX11_mend_64 : decode cX11_mend 64 = .ok (.getfield 7, 3) := by decide +kernel
theorem dX11_mend_67 : decode cX11_mend 67 = .ok (.bipush 64, 2) := by decide +kernel
theorem dX11_mend_69 : decode cX11_mend 69 = .ok (.iload_n 1, 1) := by decide +kernel
theorem dX11_mend_70 : decode cX11_mend 70 = .ok (.iadd, 1) := by decide +kernel
theorem dX11_mend_71 : decode cX11_mend 71 = .ok (.iaload, 1) := by decide +kernel
theorem dX11_mend_72 : decode cX11_mend 72 = .ok (.iload 4, 2) := by decide +kernel
theorem dX11_mend_74 : decode cX11_mend 74 = .ok (.ishr, 1) := by decide +kernel
theorem dX11_mend_75 : decode cX11_mend 75 = .ok (.iconst 1, 1) := by decide +kernel
theorem dX11_mend_76 : decode cX11_mend 76 = .ok (.iand, 1) := by decide +kernel
theorem dX11_mend_77 : decode cX11_mend 77 = .ok (.ifCond .ne 14, 3) := by decide +kernel
theorem dX11_mend_80 : decode cX11_mend 80 = .ok (.aload_n 0, 1) := by decide +kernel
theorem dX11_mend_81 : decode cX11_mend 81 = .ok (.getfield 35, 3) := by decide +kernel
theorem dX11_mend_84 : decode cX11_mend 84 = .ok (.iload_n 2, 1) := by decide +kernel
theorem dX11_mend_85 : decode cX11_mend 85 = .ok (.iload 4, 2) := by decide +kernel
theorem dX11_mend_87 : decode cX11_mend 87 = .ok (.iastore, 1) := by decide +kernel
theorem dX11_mend_88 : decode cX11_mend 88 = .ok (.iinc 2 1, 3) := by decide +kernel
theorem dX11_mend_91 : decode cX11_mend 91 = .ok (.iinc 3 1, 3) := by decide +kernel
theorem dX11_mend_94 : decode cX11_mend 94 = .ok (.goto (-61), 3) := by decide +kernel
theorem dX11_mend_97 : decode cX11_mend 97 = .ok (.iload_n 2, 1) := by decide +kernel
theorem dX11_mend_98 : decode cX11_mend 98 = .ok (.ifCond .ne 14, 3) := by decide +kernel
theorem dX11_mend_101 : decode cX11_mend 101 = .ok (.aload_n 0, 1) := by decide +kernel
theorem dX11_mend_102 : decode cX11_mend 102 = .ok (.getfield 7, 3) := by decide +kernel
theorem dX11_mend_105 : decode cX11_mend 105 = .ok (.bipush 64, 2) := by decide +kernel
theorem dX11_mend_107 : decode cX11_mend 107 = .ok (.iload_n 1, 1) := by decide +kernel
theorem dX11_mend_108 : decode cX11_mend 108 = .ok (.iadd, 1) := by decide +kernel
theorem dX11_mend_109 : decode cX11_mend 109 = .ok (.iconst 0, 1) := by decide +kernel
theorem dX11_mend_110 : decode cX11_mend 110 = .ok (.iastore, 1) := by decide +kernel
theorem dX11_mend_111 : decode cX11_mend 111 = .ok (.return_, 1) := by decide +kernel
theorem dX11_mend_112 : decode cX11_mend 112 = .ok (.aload_n 0, 1) := by decide +kernel
theorem dX11_mend_113 : decode cX11_mend 113 = .ok (.getfield 35, 3) := by decide +kernel
theorem dX11_mend_116 : decode cX11_mend 116 = .ok (.aload_n 0, 1) := by decide +kernel
theorem dX11_mend_117 : decode cX11_mend 117 = .ok (.iload_n 2, 1) := by decide +kernel
theorem dX11_mend_118 : decode cX11_mend 118 = .ok (.invokevirtual 93, 3) := by decide +kernel
theorem dX11_mend_121 : decode cX11_mend 121 = .ok (.iaload, 1) := by decide +kernel
theorem dX11_mend_122 : decode cX11_mend 122 = .ok (.istore_n 3, 1) := by decide +kernel
theorem dX11_mend_123 : decode cX11_mend 123 = .ok (.aload_n 0, 1) := by decide +kernel
theorem dX11_mend_124 : decode cX11_mend 124 = .ok (.getfield 7, 3) := by decide +kernel
theorem dX11_mend_127 : decode cX11_mend 127 = .ok (.bipush 48, 2) := by decide +kernel
theorem dX11_mend_129 : decode cX11_mend 129 = .ok (.iload_n 1, 1) := by decide +kernel
theorem dX11_mend_130 : decode cX11_mend 130 = .ok (.iadd, 1) := by decide +kernel
theorem dX11_mend_131 : decode cX11_mend 131 = .ok (.iload_n 3, 1) := by decide +kernel
theorem dX11_mend_132 : decode cX11_mend 132 = .ok (.iastore, 1) := by decide +kernel
theorem dX11_mend_133 : decode cX11_mend 133 = .ok (.aload_n 0, 1) := by decide +kernel
theorem dX11_mend_134 : decode cX11_mend 134 = .ok (.iload_n 1, 1) := by decide +kernel
theorem dX11_mend_135 : decode cX11_mend 135 = .ok (.iload_n 3, 1) := by decide +kernel
theorem dX11_mend_136 : decode cX11_mend 136 = .ok (.iconst 5, 1) := by decide +kernel
theorem dX11_mend_137 : decode cX11_mend 137 = .ok (.aload_n 0, 1) := by decide +kernel
theorem dX11_mend_138 : decode cX11_mend 138 = .ok (.getfield 7, 3) := by decide +kernel
theorem dX11_mend_141 : decode cX11_mend 141 = .ok (.bipush 16, 2) := by decide +kernel
theorem dX11_mend_143 : decode cX11_mend 143 = .ok (.iload_n 1, 1) := by decide +kernel
theorem dX11_mend_144 : decode cX11_mend 144 = .ok (.iadd, 1) := by decide +kernel
theorem dX11_mend_145 : decode cX11_mend 145 = .ok (.iaload, 1) := by decide +kernel
theorem dX11_mend_146 : decode cX11_mend 146 = .ok (.ifCond .ne 7, 3) := by decide +kernel
theorem dX11_mend_149 : decode cX11_mend 149 = .ok (.iconst 1, 1) := by decide +kernel
theorem dX11_mend_150 : decode cX11_mend 150 = .ok (.goto 4, 3) := by decide +kernel
theorem dX11_mend_153 : decode cX11_mend 153 = .ok (.iconst 0, 1) := by decide +kernel
theorem dX11_mend_154 : decode cX11_mend 154 = .ok (.iconst 0, 1) := by decide +kernel
theorem dX11_mend_155 : decode cX11_mend 155 = .ok (.invokevirtual 100, 3) := by decide +kernel
theorem dX11_mend_158 : decode cX11_mend 158 = .ok (.return_, 1) := by decide +kernel
theorem dX11_without_0 : decode cX11_without 0 = .ok (.iconst 0, 1) := by decide +kernel
theorem dX11_without_1 : decode cX11_without 1 = .ok (.istore 4, 2) := by decide +kernel
theorem dX11_without_3 : decode cX11_without 3 = .ok (.iconst 0, 1) := by decide +kernel
theorem dX11_without_4 : decode cX11_without 4 = .ok (.istore 5, 2) := by decide +kernel
theorem dX11_without_6 : decode cX11_without 6 = .ok (.iload 5, 2) := by decide +kernel
theorem dX11_without_8 : decode cX11_without 8 = .ok (.aload_n 0, 1) := by decide +kernel
theorem dX11_without_9 : decode cX11_without 9 = .ok (.getfield 7, 3) := by decide +kernel
theorem dX11_without_12 : decode cX11_without 12 = .ok (.bipush 16, 2) := by decide +kernel
theorem dX11_without_14 : decode cX11_without 14 = .ok (.iload_n 1, 1) := by decide +kernel
theorem dX11_without_15 : decode cX11_without 15 = .ok (.iadd, 1) := by decide +kernel
theorem dX11_without_16 : decode cX11_without 16 = .ok (.iaload, 1) := by decide +kernel
theorem dX11_without_17 : decode cX11_without 17 = .ok (.if_icmp .ge 49, 3) := by decide +kernel
theorem dX11_without_20 : decode cX11_without 20 = .ok (.aload_n 0, 1) := by decide +kernel
theorem dX11_without_21 : decode cX11_without 21 = .ok (.getfield 7, 3) := by decide +kernel
theorem dX11_without_24 : decode cX11_without 24 = .ok (.bipush 96, 2) := by decide +kernel
theorem dX11_without_26 : decode cX11_without 26 = .ok (.iconst 5, 1) := by decide +kernel
theorem dX11_without_27 : decode cX11_without 27 = .ok (.iload_n 1, 1) := by decide +kernel
theorem dX11_without_28 : decode cX11_without 28 = .ok (.imul, 1) := by decide +kernel
theorem dX11_without_29 : decode cX11_without 29 = .ok (.iadd, 1) := by decide +kernel
theorem dX11_without_30 : decode cX11_without 30 = .ok (.iload 5, 2) := by decide +kernel
theorem dX11_without_32 : decode cX11_without 32 = .ok (.iadd, 1) := by decide +kernel
theorem dX11_without_33 : decode cX11_without 33 = .ok (.iaload, 1) := by decide +kernel
theorem dX11_without_34 : decode cX11_without 34 = .ok (.istore 6, 2) := by decide +kernel
theorem dX11_without_36 : decode cX11_without 36 = .ok (.iload 6, 2) := by decide +kernel
theorem dX11_without_38 : decode cX11_without 38 = .ok (.iload_n 2, 1) := by decide +kernel
theorem dX11_without_39 : decode cX11_without 39 = .ok (.if_icmp .eq 21, 3) := by decide +kernel
theorem dX11_without_42 : decode cX11_without 42 = .ok (.iload 6, 2) := by decide +kernel
theorem dX11_without_44 : decode cX11_without 44 = .ok (.iload_n 3, 1) := by decide +kernel
theorem dX11_without_45 : decode cX11_without 45 = .ok (.if_icmp .eq 15, 3) := by decide +kernel
theorem dX11_without_48 : decode cX11_without 48 = .ok (.aload_n 0, 1) := by decide +kernel
theorem dX11_without_49 : decode cX11_without 49 = .ok (.getfield 35, 3) := by decide +kernel
theorem dX11_without_52 : decode cX11_without 52 = .ok (.iload 4, 2) := by decide +kernel
theorem dX11_without_54 : decode cX11_without 54 = .ok (.iload 6, 2) := by decide +kernel
theorem dX11_without_56 : decode cX11_without 56 = .ok (.iastore, 1) := by decide +kernel
theorem dX11_without_57 : decode cX11_without 57 = .ok (.iinc 4 1, 3) := by decide +kernel
theorem dX11_without_60 : decode cX11_without 60 = .ok (.iinc 5 1, 3) := by decide +kernel
theorem dX11_without_63 : decode cX11_without 63 = .ok (.goto (-57), 3) := by decide +kernel
theorem dX11_without_66 : decode cX11_without 66 = .ok (.iload 4, 2) := by decide +kernel
theorem dX11_without_68 : decode cX11_without 68 = .ok (.ireturn, 1) := by decide +kernel
theorem dX11_drawOut_0 : decode cX11_drawOut 0 = .ok (.aload_n 0, 1) := by decide +kernel
theorem dX11_drawOut_1 : decode cX11_drawOut 1 = .ok (.iload_n 1, 1) := by decide +kernel
theorem dX11_drawOut_2 : decode cX11_drawOut 2 = .ok (.invokevirtual 93, 3) := by decide +kernel
theorem dX11_drawOut_5 : decode cX11_drawOut 5 = .ok (.istore_n 2, 1) := by decide +kernel
theorem dX11_drawOut_6 : decode cX11_drawOut 6 = .ok (.aload_n 0, 1) := by decide +kernel
theorem dX11_drawOut_7 : decode cX11_drawOut 7 = .ok (.getfield 35, 3) := by decide +kernel
theorem dX11_drawOut_10 : decode cX11_drawOut 10 = .ok (.iload_n 2, 1) := by decide +kernel
theorem dX11_drawOut_11 : decode cX11_drawOut 11 = .ok (.iaload, 1) := by decide +kernel
theorem dX11_drawOut_12 : decode cX11_drawOut 12 = .ok (.istore_n 3, 1) := by decide +kernel
theorem dX11_drawOut_13 : decode cX11_drawOut 13 = .ok (.iload_n 2, 1) := by decide +kernel
theorem dX11_drawOut_14 : decode cX11_drawOut 14 = .ok (.istore 4, 2) := by decide +kernel
theorem dX11_drawOut_16 : decode cX11_drawOut 16 = .ok (.iload 4, 2) := by decide +kernel
theorem dX11_drawOut_18 : decode cX11_drawOut 18 = .ok (.iload_n 1, 1) := by decide +kernel
theorem dX11_drawOut_19 : decode cX11_drawOut 19 = .ok (.iconst 1, 1) := by decide +kernel
theorem dX11_drawOut_20 : decode cX11_drawOut 20 = .ok (.isub, 1) := by decide +kernel
theorem dX11_drawOut_21 : decode cX11_drawOut 21 = .ok (.if_icmp .ge 25, 3) := by decide +kernel
theorem dX11_drawOut_24 : decode cX11_drawOut 24 = .ok (.aload_n 0, 1) := by decide +kernel
theorem dX11_drawOut_25 : decode cX11_drawOut 25 = .ok (.getfield 35, 3) := by decide +kernel
theorem dX11_drawOut_28 : decode cX11_drawOut 28 = .ok (.iload 4, 2) := by decide +kernel
theorem dX11_drawOut_30 : decode cX11_drawOut 30 = .ok (.aload_n 0, 1) := by decide +kernel
theorem dX11_drawOut_31 : decode cX11_drawOut 31 = .ok (.getfield 35, 3) := by decide +kernel
theorem dX11_drawOut_34 : decode cX11_drawOut 34 = .ok (.iload 4, 2) := by decide +kernel
theorem dX11_drawOut_36 : decode cX11_drawOut 36 = .ok (.iconst 1, 1) := by decide +kernel
theorem dX11_drawOut_37 : decode cX11_drawOut 37 = .ok (.iadd, 1) := by decide +kernel
theorem dX11_drawOut_38 : decode cX11_drawOut 38 = .ok (.iaload, 1) := by decide +kernel
theorem dX11_drawOut_39 : decode cX11_drawOut 39 = .ok (.iastore, 1) := by decide +kernel
theorem dX11_drawOut_40 : decode cX11_drawOut 40 = .ok (.iinc 4 1, 3) := by decide +kernel
theorem dX11_drawOut_43 : decode cX11_drawOut 43 = .ok (.goto (-27), 3) := by decide +kernel
theorem dX11_drawOut_46 : decode cX11_drawOut 46 = .ok (.iload_n 3, 1) := by decide +kernel
theorem dX11_drawOut_47 : decode cX11_drawOut 47 = .ok (.ireturn, 1) := by decide +kernel
theorem dX11_node_0 : decode cX11_node 0 = .ok (.aload_n 0, 1) := by decide +kernel
theorem dX11_node_1 : decode cX11_node 1 = .ok (.getfield 7, 3) := by decide +kernel
theorem dX11_node_4 : decode cX11_node 4 = .ok (.sipush 10505, 3) := by decide +kernel
theorem dX11_node_7 : decode cX11_node 7 = .ok (.iaload, 1) := by decide +kernel
theorem dX11_node_8 : decode cX11_node 8 = .ok (.istore_n 1, 1) := by decide +kernel
theorem dX11_node_9 : decode cX11_node 9 = .ok (.iload_n 1, 1) := by decide +kernel
theorem dX11_node_10 : decode cX11_node 10 = .ok (.bipush 16, 2) := by decide +kernel
theorem dX11_node_12 : decode cX11_node 12 = .ok (.if_icmp .ne 6, 3) := by decide +kernel
theorem dX11_node_15 : decode cX11_node 15 = .ok (.bipush (-4), 2) := by decide +kernel
theorem dX11_node_17 : decode cX11_node 17 = .ok (.ireturn, 1) := by decide +kernel
theorem dX11_node_18 : decode cX11_node 18 = .ok (.aload_n 0, 1) := by decide +kernel
theorem dX11_node_19 : decode cX11_node 19 = .ok (.getfield 7, 3) := by decide +kernel
theorem dX11_node_22 : decode cX11_node 22 = .ok (.iconst 0, 1) := by decide +kernel
theorem dX11_node_23 : decode cX11_node 23 = .ok (.iload_n 1, 1) := by decide +kernel
theorem dX11_node_24 : decode cX11_node 24 = .ok (.iadd, 1) := by decide +kernel
theorem dX11_node_25 : decode cX11_node 25 = .ok (.iconst 1, 1) := by decide +kernel
theorem dX11_node_26 : decode cX11_node 26 = .ok (.iastore, 1) := by decide +kernel
theorem dX11_node_27 : decode cX11_node 27 = .ok (.aload_n 0, 1) := by decide +kernel
theorem dX11_node_28 : decode cX11_node 28 = .ok (.getfield 7, 3) := by decide +kernel
theorem dX11_node_31 : decode cX11_node 31 = .ok (.bipush 48, 2) := by decide +kernel
theorem dX11_node_33 : decode cX11_node 33 = .ok (.iload_n 1, 1) := by decide +kernel
theorem dX11_node_34 : decode cX11_node 34 = .ok (.iadd, 1) := by decide +kernel
theorem dX11_node_35 : decode cX11_node 35 = .ok (.bipush (-6), 2) := by decide +kernel
theorem dX11_node_37 : decode cX11_node 37 = .ok (.iastore, 1) := by decide +kernel
theorem dX11_node_38 : decode cX11_node 38 = .ok (.iconst 0, 1) := by decide +kernel
theorem dX11_node_39 : decode cX11_node 39 = .ok (.istore_n 2, 1) := by decide +kernel
theorem dX11_node_40 : decode cX11_node 40 = .ok (.iload_n 2, 1) := by decide +kernel
theorem dX11_node_41 : decode cX11_node 41 = .ok (.bipush 24, 2) := by decide +kernel
theorem dX11_node_43 : decode cX11_node 43 = .ok (.if_icmp .ge 26, 3) := by decide +kernel
theorem dX11_node_46 : decode cX11_node 46 = .ok (.aload_n 0, 1) := by decide +kernel
theorem dX11_node_47 : decode cX11_node 47 = .ok (.getfield 7, 3) := by decide +kernel
theorem dX11_node_50 : decode cX11_node 50 = .ok (.sipush 384, 3) := by decide +kernel
theorem dX11_node_53 : decode cX11_node 53 = .ok (.bipush 24, 2) := by decide +kernel
theorem dX11_node_55 : decode cX11_node 55 = .ok (.iload_n 1, 1) := by decide +kernel
theorem dX11_node_56 : decode cX11_node 56 = .ok (.imul, 1) := by decide +kernel
theorem dX11_node_57 : decode cX11_node 57 = .ok (.iadd, 1) := by decide +kernel
theorem dX11_node_58 : decode cX11_node 58 = .ok (.iload_n 2, 1) := by decide +kernel
theorem dX11_node_59 : decode cX11_node 59 = .ok (.iadd, 1) := by decide +kernel
theorem dX11_node_60 : decode cX11_node 60 = .ok (.bipush (-6), 2) := by decide +kernel
theorem dX11_node_62 : decode cX11_node 62 = .ok (.iastore, 1) := by decide +kernel
theorem dX11_node_63 : decode cX11_node 63 = .ok (.iinc 2 1, 3) := by decide +kernel
theorem dX11_node_66 : decode cX11_node 66 = .ok (.goto (-26), 3) := by decide +kernel
theorem dX11_node_69 : decode cX11_node 69 = .ok (.aload_n 0, 1) := by decide +kernel
theorem dX11_node_70 : decode cX11_node 70 = .ok (.getfield 7, 3) := by decide +kernel
theorem dX11_node_73 : decode cX11_node 73 = .ok (.sipush 10505, 3) := by decide +kernel
theorem dX11_node_76 : decode cX11_node 76 = .ok (.dup2, 1) := by decide +kernel
theorem dX11_node_77 : decode cX11_node 77 = .ok (.iaload, 1) := by decide +kernel
theorem dX11_node_78 : decode cX11_node 78 = .ok (.iconst 1, 1) := by decide +kernel
theorem dX11_node_79 : decode cX11_node 79 = .ok (.iadd, 1) := by decide +kernel
theorem dX11_node_80 : decode cX11_node 80 = .ok (.iastore, 1) := by decide +kernel
theorem dX11_node_81 : decode cX11_node 81 = .ok (.iload_n 1, 1) := by decide +kernel
theorem dX11_node_82 : decode cX11_node 82 = .ok (.ireturn, 1) := by decide +kernel
theorem dX11_join_0 : decode cX11_join 0 = .ok (.aload_n 0, 1) := by decide +kernel
theorem dX11_join_1 : decode cX11_join 1 = .ok (.iload_n 1, 1) := by decide +kernel
theorem dX11_join_2 : decode cX11_join 2 = .ok (.invokevirtual 110, 3) := by decide +kernel
theorem dX11_join_5 : decode cX11_join 5 = .ok (.ifCond .eq 11, 3) := by decide +kernel
theorem dX11_join_8 : decode cX11_join 8 = .ok (.aload_n 0, 1) := by decide +kernel
theorem dX11_join_9 : decode cX11_join 9 = .ok (.iload_n 2, 1) := by decide +kernel
theorem dX11_join_10 : decode cX11_join 10 = .ok (.invokevirtual 110, 3) := by decide +kernel
theorem dX11_join_13 : decode cX11_join 13 = .ok (.ifCond .ne 5, 3) := by decide +kernel
theorem dX11_join_16 : decode cX11_join 16 = .ok (.iconst (-1), 1) := by decide +kernel
theorem dX11_join_17 : decode cX11_join 17 = .ok (.ireturn, 1) := by decide +kernel
theorem dX11_join_18 : decode cX11_join 18 = .ok (.aload_n 0, 1) := by decide +kernel
theorem dX11_join_19 : decode cX11_join 19 = .ok (.getfield 7, 3) := by decide +kernel
theorem dX11_join_22 : decode cX11_join 22 = .ok (.iconst 0, 1) := by decide +kernel
theorem dX11_join_23 : decode cX11_join 23 = .ok (.iload_n 1, 1) := by decide +kernel
theorem dX11_join_24 : decode cX11_join 24 = .ok (.iadd, 1) := by decide +kernel
theorem dX11_join_25 : decode cX11_join 25 = .ok (.iaload, 1) := by decide +kernel
theorem dX11_join_26 : decode cX11_join 26 = .ok (.ifCond .eq 14, 3) := by decide +kernel
theorem dX11_join_29 : decode cX11_join 29 = .ok (.aload_n 0, 1) := by decide +kernel
theorem dX11_join_30 : decode cX11_join 30 = .ok (.getfield 7, 3) := by decide +kernel
theorem dX11_join_33 : decode cX11_join 33 = .ok (.iconst 0, 1) := by decide +kernel
theorem dX11_join_34 : decode cX11_join 34 = .ok (.iload_n 2, 1) := by decide +kernel
theorem dX11_join_35 : decode cX11_join 35 = .ok (.iadd, 1) := by decide +kernel
theorem dX11_join_36 : decode cX11_join 36 = .ok (.iaload, 1) := by decide +kernel
theorem dX11_join_37 : decode cX11_join 37 = .ok (.ifCond .ne 6, 3) := by decide +kernel
theorem dX11_join_40 : decode cX11_join 40 = .ok (.bipush (-3), 2) := by decide +kernel
theorem dX11_join_42 : decode cX11_join 42 = .ok (.ireturn, 1) := by decide +kernel
theorem dX11_join_43 : decode cX11_join 43 = .ok (.iload_n 1, 1) := by decide +kernel
theorem dX11_join_44 : decode cX11_join 44 = .ok (.iload_n 2, 1) := by decide +kernel
theorem dX11_join_45 : decode cX11_join 45 = .ok (.if_icmp .ne 6, 3) := by decide +kernel
theorem dX11_join_48 : decode cX11_join 48 = .ok (.bipush (-5), 2) := by decide +kernel
theorem dX11_join_50 : decode cX11_join 50 = .ok (.ireturn, 1) := by decide +kernel
theorem dX11_join_51 : decode cX11_join 51 = .ok (.aload_n 0, 1) := by decide +kernel
theorem dX11_join_52 : decode cX11_join 52 = .ok (.iload_n 1, 1) := by decide +kernel
theorem dX11_join_53 : decode cX11_join 53 = .ok (.iload_n 2, 1) := by decide +kernel
theorem dX11_join_54 : decode cX11_join 54 = .ok (.iconst 1, 1) := by decide +kernel
theorem dX11_join_55 : decode cX11_join 55 = .ok (.iconst 0, 1) := by decide +kernel
theorem dX11_join_56 : decode cX11_join 56 = .ok (.iconst 0, 1) := by decide +kernel
theorem dX11_join_57 : decode cX11_join 57 = .ok (.invokevirtual 100, 3) := by decide +kernel
theorem dX11_join_60 : decode cX11_join 60 = .ok (.aload_n 0, 1) := by decide +kernel
theorem dX11_join_61 : decode cX11_join 61 = .ok (.getfield 7, 3) := by decide +kernel
theorem dX11_join_64 : decode cX11_join 64 = .ok (.sipush 10507, 3) := by decide +kernel
theorem dX11_join_67 : decode cX11_join 67 = .ok (.iaload, 1) := by decide +kernel
theorem dX11_join_68 : decode cX11_join 68 = .ok (.ireturn, 1) := by decide +kernel
theorem dX11_stop_0 : decode cX11_stop 0 = .ok (.aload_n 0, 1) := by decide +kernel
theorem dX11_stop_1 : decode cX11_stop 1 = .ok (.iload_n 1, 1) := by decide +kernel
theorem dX11_stop_2 : decode cX11_stop 2 = .ok (.invokevirtual 110, 3) := by decide +kernel
theorem dX11_stop_5 : decode cX11_stop 5 = .ok (.ifCond .ne 5, 3) := by decide +kernel
theorem dX11_stop_8 : decode cX11_stop 8 = .ok (.iconst (-1), 1) := by decide +kernel
theorem dX11_stop_9 : decode cX11_stop 9 = .ok (.ireturn, 1) := by decide +kernel
theorem dX11_stop_10 : decode cX11_stop 10 = .ok (.aload_n 0, 1) := by decide +kernel
theorem dX11_stop_11 : decode cX11_stop 11 = .ok (.getfield 7, 3) := by decide +kernel
theorem dX11_stop_14 : decode cX11_stop 14 = .ok (.iconst 0, 1) := by decide +kernel
theorem dX11_stop_15 : decode cX11_stop 15 = .ok (.iload_n 1, 1) := by decide +kernel
theorem dX11_stop_16 : decode cX11_stop 16 = .ok (.iadd, 1) := by decide +kernel
theorem dX11_stop_17 : decode cX11_stop 17 = .ok (.iaload, 1) := by decide +kernel
theorem dX11_stop_18 : decode cX11_stop 18 = .ok (.ifCond .ne 6, 3) := by decide +kernel
theorem dX11_stop_21 : decode cX11_stop 21 = .ok (.bipush (-3), 2) := by decide +kernel
theorem dX11_stop_23 : decode cX11_stop 23 = .ok (.ireturn, 1) := by decide +kernel
theorem dX11_stop_24 : decode cX11_stop 24 = .ok (.aload_n 0, 1) := by decide +kernel
theorem dX11_stop_25 : decode cX11_stop 25 = .ok (.getfield 7, 3) := by decide +kernel
theorem dX11_stop_28 : decode cX11_stop 28 = .ok (.iconst 0, 1) := by decide +kernel
theorem dX11_stop_29 : decode cX11_stop 29 = .ok (.iload_n 1, 1) := by decide +kernel
theorem dX11_stop_30 : decode cX11_stop 30 = .ok (.iadd, 1) := by decide +kernel
theorem dX11_stop_31 : decode cX11_stop 31 = .ok (.iconst 0, 1) := by decide +kernel
theorem dX11_stop_32 : decode cX11_stop 32 = .ok (.iastore, 1) := by decide +kernel
theorem dX11_stop_33 : decode cX11_stop 33 = .ok (.iconst 0, 1) := by decide +kernel
theorem dX11_stop_34 : decode cX11_stop 34 = .ok (.istore_n 2, 1) := by decide +kernel
theorem dX11_stop_35 : decode cX11_stop 35 = .ok (.aload_n 0, 1) := by decide +kernel
theorem dX11_stop_36 : decode cX11_stop 36 = .ok (.getfield 7, 3) := by decide +kernel
theorem dX11_stop_39 : decode cX11_stop 39 = .ok (.sipush 10507, 3) := by decide +kernel
theorem dX11_stop_42 : decode cX11_stop 42 = .ok (.iaload, 1) := by decide +kernel
theorem dX11_stop_43 : decode cX11_stop 43 = .ok (.iconst 1, 1) := by decide +kernel
theorem dX11_stop_44 : decode cX11_stop 44 = .ok (.isub, 1) := by decide +kernel
theorem dX11_stop_45 : decode cX11_stop 45 = .ok (.istore_n 3, 1) := by decide +kernel
theorem dX11_stop_46 : decode cX11_stop 46 = .ok (.iload_n 3, 1) := by decide +kernel
theorem dX11_stop_47 : decode cX11_stop 47 = .ok (.ifCond .lt 32, 3) := by decide +kernel
theorem dX11_stop_50 : decode cX11_stop 50 = .ok (.aload_n 0, 1) := by decide +kernel
theorem dX11_stop_51 : decode cX11_stop 51 = .ok (.getfield 7, 3) := by decide +kernel
theorem dX11_stop_54 : decode cX11_stop 54 = .ok (.aload_n 0, 1) := by decide +kernel
theorem dX11_stop_55 : decode cX11_stop 55 = .ok (.iload_n 3, 1) := by decide +kernel
theorem dX11_stop_56 : decode cX11_stop 56 = .ok (.iconst 1, 1) := by decide +kernel
theorem dX11_stop_57 : decode cX11_stop 57 = .ok (.invokevirtual 68, 3) := by decide +kernel
theorem dX11_stop_60 : decode cX11_stop 60 = .ok (.iaload, 1) := by decide +kernel
theorem dX11_stop_61 : decode cX11_stop 61 = .ok (.iload_n 1, 1) := by decide +kernel
theorem dX11_stop_62 : decode cX11_stop 62 = .ok (.if_icmp .ne 11, 3) := by decide +kernel
theorem dX11_stop_65 : decode cX11_stop 65 = .ok (.aload_n 0, 1) := by decide +kernel
theorem dX11_stop_66 : decode cX11_stop 66 = .ok (.iload_n 3, 1) := by decide +kernel
theorem dX11_stop_67 : decode cX11_stop 67 = .ok (.invokevirtual 114, 3) := by decide +kernel
theorem dX11_stop_70 : decode cX11_stop 70 = .ok (.iinc 2 1, 3) := by decide +kernel
theorem dX11_stop_73 : decode cX11_stop 73 = .ok (.iinc 3 (-1), 3) := by decide +kernel
theorem dX11_stop_76 : decode cX11_stop 76 = .ok (.goto (-30), 3) := by decide +kernel
theorem dX11_stop_79 : decode cX11_stop 79 = .ok (.iconst 0, 1) := by decide +kernel
theorem dX11_stop_80 : decode cX11_stop 80 = .ok (.istore_n 3, 1) := by decide +kernel
theorem dX11_stop_81 : decode cX11_stop 81 = .ok (.iload_n 3, 1) := by decide +kernel
theorem dX11_stop_82 : decode cX11_stop 82 = .ok (.aload_n 0, 1) := by decide +kernel
theorem dX11_stop_83 : decode cX11_stop 83 = .ok (.getfield 7, 3) := by decide +kernel
theorem dX11_stop_86 : decode cX11_stop 86 = .ok (.sipush 10505, 3) := by decide +kernel
theorem dX11_stop_89 : decode cX11_stop 89 = .ok (.iaload, 1) := by decide +kernel
theorem dX11_stop_90 : decode cX11_stop 90 = .ok (.if_icmp .ge 63, 3) := by decide +kernel
theorem dX11_stop_93 : decode cX11_stop 93 = .ok (.aload_n 0, 1) := by decide +kernel
theorem dX11_stop_94 : decode cX11_stop 94 = .ok (.getfield 7, 3) := by decide +kernel
theorem dX11_stop_97 : decode cX11_stop 97 = .ok (.iconst 0, 1) := by decide +kernel
theorem dX11_stop_98 : decode cX11_stop 98 = .ok (.iload_n 3, 1) := by decide +kernel
theorem dX11_stop_99 : decode cX11_stop 99 = .ok (.iadd, 1) := by decide +kernel
theorem dX11_stop_100 : decode cX11_stop 100 = .ok (.iaload, 1) := by decide +kernel
theorem dX11_stop_101 : decode cX11_stop 101 = .ok (.iconst 1, 1) := by decide +kernel
theorem dX11_stop_102 : decode cX11_stop 102 = .ok (.if_icmp .ne 45, 3) := by decide +kernel
theorem dX11_stop_105 : decode cX11_stop 105 = .ok (.aload_n 0, 1) := by decide +kernel
theorem dX11_stop_106 : decode cX11_stop 106 = .ok (.iload_n 3, 1) := by decide +kernel
theorem dX11_stop_107 : decode cX11_stop 107 = .ok (.iload_n 1, 1) := by decide +kernel
theorem dX11_stop_108 : decode cX11_stop 108 = .ok (.invokevirtual 89, 3) := by decide +kernel
theorem dX11_stop_111 : decode cX11_stop 111 = .ok (.ifCond .ne 25, 3) := by decide +kernel
theorem dX11_stop_114 : decode cX11_stop 114 = .ok (.aload_n 0, 1) := by decide +kernel
theorem dX11_stop_115 : decode cX11_stop 115 = .ok (.getfield 7, 3) := by decide +kernel
theorem dX11_stop_118 : decode cX11_stop 118 = .ok (.bipush 48, 2) := by decide +kernel
theorem dX11_stop_120 : decode cX11_stop 120 = .ok (.iload_n 3, 1) := by decide +kernel
theorem dX11_stop_121 : decode cX11_stop 121 = .ok (.iadd, 1) := by decide +kernel
theorem dX11_stop_122 : decode cX11_stop 122 = .ok (.iaload, 1) := by decide +kernel
theorem dX11_stop_123 : decode cX11_stop 123 = .ok (.iload_n 1, 1) := by decide +kernel
theorem dX11_stop_124 : decode cX11_stop 124 = .ok (.if_icmp .eq 12, 3) := by decide +kernel
theorem dX11_stop_127 : decode cX11_stop 127 = .ok (.aload_n 0, 1) := by decide +kernel
theorem dX11_stop_128 : decode cX11_stop 128 = .ok (.iload_n 1, 1) := by decide +kernel
theorem dX11_stop_129 : decode cX11_stop 129 = .ok (.iload_n 3, 1) := by decide +kernel
theorem dX11_stop_130 : decode cX11_stop 130 = .ok (.invokevirtual 118, 3) := by decide +kernel
theorem dX11_stop_133 : decode cX11_stop 133 = .ok (.ifCond .eq 14, 3) := by decide +kernel
theorem dX11_stop_136 : decode cX11_stop 136 = .ok (.aload_n 0, 1) := by decide +kernel
theorem dX11_stop_137 : decode cX11_stop 137 = .ok (.iload_n 1, 1) := by decide +kernel
theorem dX11_stop_138 : decode cX11_stop 138 = .ok (.iload_n 3, 1) := by decide +kernel
theorem dX11_stop_139 : decode cX11_stop 139 = .ok (.bipush 12, 2) := by decide +kernel
theorem dX11_stop_141 : decode cX11_stop 141 = .ok (.iconst 0, 1) := by decide +kernel
theorem dX11_stop_142 : decode cX11_stop 142 = .ok (.iconst 0, 1) := by decide +kernel
theorem dX11_stop_143 : decode cX11_stop 143 = .ok (.iconst 0, 1) := by decide +kernel
theorem dX11_stop_144 : decode cX11_stop 144 = .ok (.invokevirtual 72, 3) := by decide +kernel
theorem dX11_stop_147 : decode cX11_stop 147 = .ok (.iinc 3 1, 3) := by decide +kernel
theorem dX11_stop_150 : decode cX11_stop 150 = .ok (.goto (-69), 3) := by decide +kernel
theorem dX11_stop_153 : decode cX11_stop 153 = .ok (.iload_n 2, 1) := by decide +kernel
theorem dX11_stop_154 : decode cX11_stop 154 = .ok (.ireturn, 1) := by decide +kernel
theorem dX11_isUnderWay_0 : decode cX11_isUnderWay 0 = .ok (.iconst 0, 1) := by decide +kernel
theorem dX11_isUnderWay_1 : decode cX11_isUnderWay 1 = .ok (.istore_n 3, 1) := by decide +kernel
theorem dX11_isUnderWay_2 : decode cX11_isUnderWay 2 = .ok (.iconst 0, 1) := by decide +kernel
theorem dX11_isUnderWay_3 : decode cX11_isUnderWay 3 = .ok (.istore 4, 2) := by decide +kernel
theorem dX11_isUnderWay_5 : decode cX11_isUnderWay 5 = .ok (.iload 4, 2) := by decide +kernel
theorem dX11_isUnderWay_7 : decode cX11_isUnderWay 7 = .ok (.aload_n 0, 1) := by decide +kernel
theorem dX11_isUnderWay_8 : decode cX11_isUnderWay 8 = .ok (.getfield 7, 3) := by decide +kernel
theorem dX11_isUnderWay_11 : decode cX11_isUnderWay 11 = .ok (.sipush 10507, 3) := by decide +kernel
theorem dX11_isUnderWay_14 : decode cX11_isUnderWay 14 = .ok (.iaload, 1) := by decide +kernel
theorem dX11_isUnderWay_15 : decode cX11_isUnderWay 15 = .ok (.if_icmp .ge 51, 3) := by decide +kernel
theorem dX11_isUnderWay_18 : decode cX11_isUnderWay 18 = .ok (.iload_n 3, 1) := by decide +kernel
theorem dX11_isUnderWay_19 : decode cX11_isUnderWay 19 = .ok (.ifCond .ne 35, 3) := by decide +kernel
theorem dX11_isUnderWay_22 : decode cX11_isUnderWay 22 = .ok (.aload_n 0, 1) := by decide +kernel
theorem dX11_isUnderWay_23 : decode cX11_isUnderWay 23 = .ok (.getfield 7, 3) := by decide +kernel
theorem dX11_isUnderWay_26 : decode cX11_isUnderWay 26 = .ok (.aload_n 0, 1) := by decide +kernel
theorem dX11_isUnderWay_27 : decode cX11_isUnderWay 27 = .ok (.iload 4, 2) := by decide +kernel
theorem dX11_isUnderWay_29 : decode cX11_isUnderWay 29 = .ok (.iconst 0, 1) := by decide +kernel
theorem dX11_isUnderWay_30 : decode cX11_isUnderWay 30 = .ok (.invokevirtual 68, 3) := by decide +kernel
theorem dX11_isUnderWay_33 : decode cX11_isUnderWay 33 = .ok (.iaload, 1) := by decide +kernel
theorem dX11_isUnderWay_34 : decode cX11_isUnderWay 34 = .ok (.iload_n 1, 1) := by decide +kernel
theorem dX11_isUnderWay_35 : decode cX11_isUnderWay 35 = .ok (.if_icmp .ne 23, 3) := by decide +kernel
theorem dX11_isUnderWay_38 : decode cX11_isUnderWay 38 = .ok (.aload_n 0, 1) := by decide +kernel
theorem dX11_isUnderWay_39 : decode cX11_isUnderWay 39 = .ok (.getfield 7, 3) := by decide +kernel
theorem dX11_isUnderWay_42 : decode cX11_isUnderWay 42 = .ok (.aload_n 0, 1) := by decide +kernel
theorem dX11_isUnderWay_43 : decode cX11_isUnderWay 43 = .ok (.iload 4, 2) := by decide +kernel
theorem dX11_isUnderWay_45 : decode cX11_isUnderWay 45 = .ok (.iconst 1, 1) := by decide +kernel
theorem dX11_isUnderWay_46 : decode cX11_isUnderWay 46 = .ok (.invokevirtual 68, 3) := by decide +kernel
theorem dX11_isUnderWay_49 : decode cX11_isUnderWay 49 = .ok (.iaload, 1) := by decide +kernel
theorem dX11_isUnderWay_50 : decode cX11_isUnderWay 50 = .ok (.iload_n 2, 1) := by decide +kernel
theorem dX11_isUnderWay_51 : decode cX11_isUnderWay 51 = .ok (.if_icmp .ne 7, 3) := by decide +kernel
theorem dX11_isUnderWay_54 : decode cX11_isUnderWay 54 = .ok (.iconst 1, 1) := by decide +kernel
theorem dX11_isUnderWay_55 : decode cX11_isUnderWay 55 = .ok (.goto 4, 3) := by decide +kernel
theorem dX11_isUnderWay_58 : decode cX11_isUnderWay 58 = .ok (.iconst 0, 1) := by decide +kernel
theorem dX11_isUnderWay_59 : decode cX11_isUnderWay 59 = .ok (.istore_n 3, 1) := by decide +kernel
theorem dX11_isUnderWay_60 : decode cX11_isUnderWay 60 = .ok (.iinc 4 1, 3) := by decide +kernel
theorem dX11_isUnderWay_63 : decode cX11_isUnderWay 63 = .ok (.goto (-58), 3) := by decide +kernel
theorem dX11_isUnderWay_66 : decode cX11_isUnderWay 66 = .ok (.iload_n 3, 1) := by decide +kernel
theorem dX11_isUnderWay_67 : decode cX11_isUnderWay 67 = .ok (.ireturn, 1) := by decide +kernel
theorem dX11_mix_0 : decode cX11_mix 0 = .ok (.aload_n 0, 1) := by decide +kernel
theorem dX11_mix_1 : decode cX11_mix 1 = .ok (.iload_n 1, 1) := by decide +kernel
theorem dX11_mix_2 : decode cX11_mix 2 = .ok (.invokevirtual 110, 3) := by decide +kernel
theorem dX11_mix_5 : decode cX11_mix 5 = .ok (.ifCond .ne 5, 3) := by decide +kernel
theorem dX11_mix_8 : decode cX11_mix 8 = .ok (.iconst (-1), 1) := by decide +kernel
theorem dX11_mix_9 : decode cX11_mix 9 = .ok (.ireturn, 1) := by decide +kernel
theorem dX11_mix_10 : decode cX11_mix 10 = .ok (.aload_n 0, 1) := by decide +kernel
theorem dX11_mix_11 : decode cX11_mix 11 = .ok (.getfield 7, 3) := by decide +kernel
theorem dX11_mix_14 : decode cX11_mix 14 = .ok (.iconst 0, 1) := by decide +kernel
theorem dX11_mix_15 : decode cX11_mix 15 = .ok (.iload_n 1, 1) := by decide +kernel
theorem dX11_mix_16 : decode cX11_mix 16 = .ok (.iadd, 1) := by decide +kernel
theorem dX11_mix_17 : decode cX11_mix 17 = .ok (.iaload, 1) := by decide +kernel
theorem dX11_mix_18 : decode cX11_mix 18 = .ok (.ifCond .ne 6, 3) := by decide +kernel
theorem dX11_mix_21 : decode cX11_mix 21 = .ok (.bipush (-3), 2) := by decide +kernel
theorem dX11_mix_23 : decode cX11_mix 23 = .ok (.ireturn, 1) := by decide +kernel
theorem dX11_mix_24 : decode cX11_mix 24 = .ok (.aload_n 0, 1) := by decide +kernel
theorem dX11_mix_25 : decode cX11_mix 25 = .ok (.getfield 7, 3) := by decide +kernel
theorem dX11_mix_28 : decode cX11_mix 28 = .ok (.bipush 16, 2) := by decide +kernel
theorem dX11_mix_30 : decode cX11_mix 30 = .ok (.iload_n 1, 1) := by decide +kernel
theorem dX11_mix_31 : decode cX11_mix 31 = .ok (.iadd, 1) := by decide +kernel
theorem dX11_mix_32 : decode cX11_mix 32 = .ok (.iaload, 1) := by decide +kernel
theorem dX11_mix_33 : decode cX11_mix 33 = .ok (.ifCond .ne 6, 3) := by decide +kernel
theorem dX11_mix_36 : decode cX11_mix 36 = .ok (.bipush (-5), 2) := by decide +kernel
theorem dX11_mix_38 : decode cX11_mix 38 = .ok (.ireturn, 1) := by decide +kernel
theorem dX11_mix_39 : decode cX11_mix 39 = .ok (.aload_n 0, 1) := by decide +kernel
theorem dX11_mix_40 : decode cX11_mix 40 = .ok (.getfield 7, 3) := by decide +kernel
theorem dX11_mix_43 : decode cX11_mix 43 = .ok (.bipush 96, 2) := by decide +kernel
theorem dX11_mix_45 : decode cX11_mix 45 = .ok (.iconst 5, 1) := by decide +kernel
theorem dX11_mix_46 : decode cX11_mix 46 = .ok (.iload_n 1, 1) := by decide +kernel
theorem dX11_mix_47 : decode cX11_mix 47 = .ok (.imul, 1) := by decide +kernel
theorem dX11_mix_48 : decode cX11_mix 48 = .ok (.iadd, 1) := by decide +kernel
theorem dX11_mix_49 : decode cX11_mix 49 = .ok (.aload_n 0, 1) := by decide +kernel
theorem dX11_mix_50 : decode cX11_mix 50 = .ok (.aload_n 0, 1) := by decide +kernel
theorem dX11_mix_51 : decode cX11_mix 51 = .ok (.getfield 7, 3) := by decide +kernel
theorem dX11_mix_54 : decode cX11_mix 54 = .ok (.bipush 16, 2) := by decide +kernel
theorem dX11_mix_56 : decode cX11_mix 56 = .ok (.iload_n 1, 1) := by decide +kernel
theorem dX11_mix_57 : decode cX11_mix 57 = .ok (.iadd, 1) := by decide +kernel
theorem dX11_mix_58 : decode cX11_mix 58 = .ok (.iaload, 1) := by decide +kernel
theorem dX11_mix_59 : decode cX11_mix 59 = .ok (.invokevirtual 93, 3) := by decide +kernel
theorem dX11_mix_62 : decode cX11_mix 62 = .ok (.iadd, 1) := by decide +kernel
theorem dX11_mix_63 : decode cX11_mix 63 = .ok (.iaload, 1) := by decide +kernel
theorem dX11_mix_64 : decode cX11_mix 64 = .ok (.istore_n 2, 1) := by decide +kernel
theorem dX11_mix_65 : decode cX11_mix 65 = .ok (.aload_n 0, 1) := by decide +kernel
theorem dX11_mix_66 : decode cX11_mix 66 = .ok (.getfield 32, 3) := by decide +kernel
theorem dX11_mix_69 : decode cX11_mix 69 = .ok (.iconst 0, 1) := by decide +kernel
theorem dX11_mix_70 : decode cX11_mix 70 = .ok (.iload_n 1, 1) := by decide +kernel
theorem dX11_mix_71 : decode cX11_mix 71 = .ok (.iastore, 1) := by decide +kernel
theorem dX11_mix_72 : decode cX11_mix 72 = .ok (.aload_n 0, 1) := by decide +kernel
theorem dX11_mix_73 : decode cX11_mix 73 = .ok (.iconst 1, 1) := by decide +kernel
theorem dX11_mix_74 : decode cX11_mix 74 = .ok (.putfield 121, 3) := by decide +kernel
theorem dX11_mix_77 : decode cX11_mix 77 = .ok (.aload_n 0, 1) := by decide +kernel
theorem dX11_mix_78 : decode cX11_mix 78 = .ok (.aload_n 0, 1) := by decide +kernel
theorem dX11_mix_79 : decode cX11_mix 79 = .ok (.iload_n 1, 1) := by decide +kernel
theorem dX11_mix_80 : decode cX11_mix 80 = .ok (.iload_n 2, 1) := by decide +kernel
theorem dX11_mix_81 : decode cX11_mix 81 = .ok (.iload_n 2, 1) := by decide +kernel
theorem dX11_mix_82 : decode cX11_mix 82 = .ok (.invokevirtual 124, 3) := by decide +kernel
theorem dX11_mix_85 : decode cX11_mix 85 = .ok (.iconst 2, 1) := by decide +kernel
theorem dX11_mix_86 : decode cX11_mix 86 = .ok (.invokevirtual 128, 3) := by decide +kernel
theorem dX11_mix_89 : decode cX11_mix 89 = .ok (.aload_n 0, 1) := by decide +kernel
theorem dX11_mix_90 : decode cX11_mix 90 = .ok (.getfield 7, 3) := by decide +kernel
theorem dX11_mix_93 : decode cX11_mix 93 = .ok (.bipush 32, 2) := by decide +kernel
theorem dX11_mix_95 : decode cX11_mix 95 = .ok (.iload_n 1, 1) := by decide +kernel
theorem dX11_mix_96 : decode cX11_mix 96 = .ok (.iadd, 1) := by decide +kernel
theorem dX11_mix_97 : decode cX11_mix 97 = .ok (.iaload, 1) := by decide +kernel
theorem dX11_mix_98 : decode cX11_mix 98 = .ok (.istore_n 3, 1) := by decide +kernel
theorem dX11_mix_99 : decode cX11_mix 99 = .ok (.iconst 0, 1) := by decide +kernel
theorem dX11_mix_100 : decode cX11_mix 100 = .ok (.istore 4, 2) := by decide +kernel
theorem dX11_mix_102 : decode cX11_mix 102 = .ok (.iload 4, 2) := by decide +kernel
theorem dX11_mix_104 : decode cX11_mix 104 = .ok (.iload_n 3, 1) := by decide +kernel
theorem dX11_mix_105 : decode cX11_mix 105 = .ok (.if_icmp .ge 32, 3) := by decide +kernel
theorem dX11_mix_108 : decode cX11_mix 108 = .ok (.aload_n 0, 1) := by decide +kernel
theorem dX11_mix_109 : decode cX11_mix 109 = .ok (.getfield 35, 3) := by decide +kernel
theorem dX11_mix_112 : decode cX11_mix 112 = .ok (.iload 4, 2) := by decide +kernel
theorem dX11_mix_114 : decode cX11_mix 114 = .ok (.aload_n 0, 1) := by decide +kernel
theorem dX11_mix_115 : decode cX11_mix 115 = .ok (.getfield 7, 3) := by decide +kernel
theorem dX11_mix_118 : decode cX11_mix 118 = .ok (.sipush 256, 3) := by decide +kernel
theorem dX11_mix_121 : decode cX11_mix 121 = .ok (.bipush 8, 2) := by decide +kernel
theorem dX11_mix_123 : decode cX11_mix 123 = .ok (.iload_n 1, 1) := by decide +kernel
theorem dX11_mix_124 : decode cX11_mix 124 = .ok (.imul, 1) := by decide +kernel
theorem dX11_mix_125 : decode cX11_mix 125 = .ok (.iadd, 1) := by decide +kernel
theorem dX11_mix_126 : decode cX11_mix 126 = .ok (.iload 4, 2) := by decide +kernel
theorem dX11_mix_128 : decode cX11_mix 128 = .ok (.iadd, 1) := by decide +kernel
theorem dX11_mix_129 : decode cX11_mix 129 = .ok (.iaload, 1) := by decide +kernel
theorem dX11_mix_130 : decode cX11_mix 130 = .ok (.iastore, 1) := by decide +kernel
theorem dX11_mix_131 : decode cX11_mix 131 = .ok (.iinc 4 1, 3) := by decide +kernel
theorem dX11_mix_134 : decode cX11_mix 134 = .ok (.goto (-32), 3) := by decide +kernel
theorem dX11_mix_137 : decode cX11_mix 137 = .ok (.aload_n 0, 1) := by decide +kernel
theorem dX11_mix_138 : decode cX11_mix 138 = .ok (.iload_n 3, 1) := by decide +kernel
theorem dX11_mix_139 : decode cX11_mix 139 = .ok (.iconst 2, 1) := by decide +kernel
theorem dX11_mix_140 : decode cX11_mix 140 = .ok (.invokevirtual 128, 3) := by decide +kernel
theorem dX11_mix_143 : decode cX11_mix 143 = .ok (.aload_n 0, 1) := by decide +kernel
theorem dX11_mix_144 : decode cX11_mix 144 = .ok (.iload_n 1, 1) := by decide +kernel
theorem dX11_mix_145 : decode cX11_mix 145 = .ok (.iload_n 2, 1) := by decide +kernel
theorem dX11_mix_146 : decode cX11_mix 146 = .ok (.bipush 7, 2) := by decide +kernel
theorem dX11_mix_148 : decode cX11_mix 148 = .ok (.iload_n 1, 1) := by decide +kernel
theorem dX11_mix_149 : decode cX11_mix 149 = .ok (.aload_n 0, 1) := by decide +kernel
theorem dX11_mix_150 : decode cX11_mix 150 = .ok (.getfield 20, 3) := by decide +kernel
theorem dX11_mix_153 : decode cX11_mix 153 = .ok (.aload_n 0, 1) := by decide +kernel
theorem dX11_mix_154 : decode cX11_mix 154 = .ok (.getfield 121, 3) := by decide +kernel
theorem dX11_mix_157 : decode cX11_mix 157 = .ok (.invokevirtual 76, 3) := by decide +kernel
theorem dX11_mix_160 : decode cX11_mix 160 = .ok (.iload_n 2, 1) := by decide +kernel
theorem dX11_mix_161 : decode cX11_mix 161 = .ok (.ireturn, 1) := by decide +kernel
theorem dX11_drawSome_0 : decode cX11_drawSome 0 = .ok (.iload_n 1, 1) := by decide +kernel
theorem dX11_drawSome_1 : decode cX11_drawSome 1 = .ok (.istore_n 3, 1) := by decide +kernel
theorem dX11_drawSome_2 : decode cX11_drawSome 2 = .ok (.iconst 0, 1) := by decide +kernel
theorem dX11_drawSome_3 : decode cX11_drawSome 3 = .ok (.istore 4, 2) := by decide +kernel
theorem dX11_drawSome_5 : decode cX11_drawSome 5 = .ok (.iload 4, 2) := by decide +kernel
theorem dX11_drawSome_7 : decode cX11_drawSome 7 = .ok (.iload_n 2, 1) := by decide +kernel
theorem dX11_drawSome_8 : decode cX11_drawSome 8 = .ok (.if_icmp .ge 40, 3) := by decide +kernel
theorem dX11_drawSome_11 : decode cX11_drawSome 11 = .ok (.iload_n 3, 1) := by decide +kernel
theorem dX11_drawSome_12 : decode cX11_drawSome 12 = .ok (.ifCond .le 36, 3) := by decide +kernel
theorem dX11_drawSome_15 : decode cX11_drawSome 15 = .ok (.aload_n 0, 1) := by decide +kernel
theorem dX11_drawSome_16 : decode cX11_drawSome 16 = .ok (.getfield 32, 3) := by decide +kernel
theorem dX11_drawSome_19 : decode cX11_drawSome 19 = .ok (.aload_n 0, 1) := by decide +kernel
theorem dX11_drawSome_20 : decode cX11_drawSome 20 = .ok (.getfield 121, 3) := by decide +kernel
theorem dX11_drawSome_23 : decode cX11_drawSome 23 = .ok (.aload_n 0, 1) := by decide +kernel
theorem dX11_drawSome_24 : decode cX11_drawSome 24 = .ok (.iload_n 3, 1) := by decide +kernel
theorem dX11_drawSome_25 : decode cX11_drawSome 25 = .ok (.invokevirtual 131, 3) := by decide +kernel
theorem dX11_drawSome_28 : decode cX11_drawSome 28 = .ok (.iastore, 1) := by decide +kernel
theorem dX11_drawSome_29 : decode cX11_drawSome 29 = .ok (.aload_n 0, 1) := by decide +kernel
theorem dX11_drawSome_30 : decode cX11_drawSome 30 = .ok (.dup, 1) := by decide +kernel
theorem dX11_drawSome_31 : decode cX11_drawSome 31 = .ok (.getfield 121, 3) := by decide +kernel
theorem dX11_drawSome_34 : decode cX11_drawSome 34 = .ok (.iconst 1, 1) := by decide +kernel
theorem dX11_drawSome_35 : decode cX11_drawSome 35 = .ok (.iadd, 1) := by decide +kernel
theorem dX11_drawSome_36 : decode cX11_drawSome 36 = .ok (.putfield 121, 3) := by decide +kernel
theorem dX11_drawSome_39 : decode cX11_drawSome 39 = .ok (.iinc 3 (-1), 3) := by decide +kernel
theorem dX11_drawSome_42 : decode cX11_drawSome 42 = .ok (.iinc 4 1, 3) := by decide +kernel
theorem dX11_drawSome_45 : decode cX11_drawSome 45 = .ok (.goto (-40), 3) := by decide +kernel
theorem dX11_drawSome_48 : decode cX11_drawSome 48 = .ok (.return_, 1) := by decide +kernel
theorem dX11_tale_0 : decode cX11_tale 0 = .ok (.aload_n 0, 1) := by decide +kernel
theorem dX11_tale_1 : decode cX11_tale 1 = .ok (.iload_n 1, 1) := by decide +kernel
theorem dX11_tale_2 : decode cX11_tale 2 = .ok (.invokevirtual 110, 3) := by decide +kernel
theorem dX11_tale_5 : decode cX11_tale 5 = .ok (.ifCond .ne 5, 3) := by decide +kernel
theorem dX11_tale_8 : decode cX11_tale 8 = .ok (.iconst (-1), 1) := by decide +kernel
theorem dX11_tale_9 : decode cX11_tale 9 = .ok (.ireturn, 1) := by decide +kernel
theorem dX11_tale_10 : decode cX11_tale 10 = .ok (.aload_n 0, 1) := by decide +kernel
theorem dX11_tale_11 : decode cX11_tale 11 = .ok (.getfield 7, 3) := by decide +kernel
theorem dX11_tale_14 : decode cX11_tale 14 = .ok (.iconst 0, 1) := by decide +kernel
theorem dX11_tale_15 : decode cX11_tale 15 = .ok (.iload_n 1, 1) := by decide +kernel
theorem dX11_tale_16 : decode cX11_tale 16 = .ok (.iadd, 1) := by decide +kernel
theorem dX11_tale_17 : decode cX11_tale 17 = .ok (.iaload, 1) := by decide +kernel
theorem dX11_tale_18 : decode cX11_tale 18 = .ok (.ifCond .ne 6, 3) := by decide +kernel
theorem dX11_tale_21 : decode cX11_tale 21 = .ok (.bipush (-3), 2) := by decide +kernel
theorem dX11_tale_23 : decode cX11_tale 23 = .ok (.ireturn, 1) := by decide +kernel
theorem dX11_tale_24 : decode cX11_tale 24 = .ok (.aload_n 0, 1) := by decide +kernel
theorem dX11_tale_25 : decode cX11_tale 25 = .ok (.getfield 7, 3) := by decide +kernel
theorem dX11_tale_28 : decode cX11_tale 28 = .ok (.sipush 10506, 3) := by decide +kernel
theorem dX11_tale_31 : decode cX11_tale 31 = .ok (.iaload, 1) := by decide +kernel
theorem dX11_tale_32 : decode cX11_tale 32 = .ok (.bipush 24, 2) := by decide +kernel
theorem dX11_tale_34 : decode cX11_tale 34 = .ok (.if_icmp .ne 6, 3) := by decide +kernel
theorem dX11_tale_37 : decode cX11_tale 37 = .ok (.bipush (-4), 2) := by decide +kernel
theorem dX11_tale_39 : decode cX11_tale 39 = .ok (.ireturn, 1) := by decide +kernel
theorem dX11_tale_40 : decode cX11_tale 40 = .ok (.aload_n 0, 1) := by decide +kernel
theorem dX11_tale_41 : decode cX11_tale 41 = .ok (.getfield 7, 3) := by decide +kernel
theorem dX11_tale_44 : decode cX11_tale 44 = .ok (.sipush 10506, 3) := by decide +kernel
theorem dX11_tale_47 : decode cX11_tale 47 = .ok (.dup2, 1) := by decide +kernel
theorem dX11_tale_48 : decode cX11_tale 48 = .ok (.iaload, 1) := by decide +kernel
theorem dX11_tale_49 : decode cX11_tale 49 = .ok (.iconst 1, 1) := by decide +kernel
theorem dX11_tale_50 : decode cX11_tale 50 = .ok (.iadd, 1) := by decide +kernel
theorem dX11_tale_51 : decode cX11_tale 51 = .ok (.iastore, 1) := by decide +kernel
theorem dX11_tale_52 : decode cX11_tale 52 = .ok (.aload_n 0, 1) := by decide +kernel
theorem dX11_tale_53 : decode cX11_tale 53 = .ok (.iload_n 1, 1) := by decide +kernel
theorem dX11_tale_54 : decode cX11_tale 54 = .ok (.aload_n 0, 1) := by decide +kernel
theorem dX11_tale_55 : decode cX11_tale 55 = .ok (.getfield 7, 3) := by decide +kernel
theorem dX11_tale_58 : decode cX11_tale 58 = .ok (.sipush 10506, 3) := by decide +kernel
theorem dX11_tale_61 : decode cX11_tale 61 = .ok (.iaload, 1) := by decide +kernel
theorem dX11_tale_62 : decode cX11_tale 62 = .ok (.iconst 1, 1) := by decide +kernel
theorem dX11_tale_63 : decode cX11_tale 63 = .ok (.isub, 1) := by decide +kernel
theorem dX11_tale_64 : decode cX11_tale 64 = .ok (.bipush (-6), 2) := by decide +kernel
theorem dX11_tale_66 : decode cX11_tale 66 = .ok (.iconst 0, 1) := by decide +kernel
theorem dX11_tale_67 : decode cX11_tale 67 = .ok (.invokevirtual 134, 3) := by decide +kernel
theorem dX11_tale_70 : decode cX11_tale 70 = .ok (.aload_n 0, 1) := by decide +kernel
theorem dX11_tale_71 : decode cX11_tale 71 = .ok (.getfield 7, 3) := by decide +kernel
theorem dX11_tale_74 : decode cX11_tale 74 = .ok (.sipush 10506, 3) := by decide +kernel
theorem dX11_tale_77 : decode cX11_tale 77 = .ok (.iaload, 1) := by decide +kernel
theorem dX11_tale_78 : decode cX11_tale 78 = .ok (.iconst 1, 1) := by decide +kernel
theorem dX11_tale_79 : decode cX11_tale 79 = .ok (.isub, 1) := by decide +kernel
theorem dX11_tale_80 : decode cX11_tale 80 = .ok (.ireturn, 1) := by decide +kernel
theorem dX11_hear_0 : decode cX11_hear 0 = .ok (.bipush 24, 2) := by decide +kernel
theorem dX11_hear_2 : decode cX11_hear 2 = .ok (.iload_n 1, 1) := by decide +kernel
theorem dX11_hear_3 : decode cX11_hear 3 = .ok (.imul, 1) := by decide +kernel
theorem dX11_hear_4 : decode cX11_hear 4 = .ok (.iload_n 2, 1) := by decide +kernel
theorem dX11_hear_5 : decode cX11_hear 5 = .ok (.iadd, 1) := by decide +kernel
theorem dX11_hear_6 : decode cX11_hear 6 = .ok (.istore 5, 2) := by decide +kernel
theorem dX11_hear_8 : decode cX11_hear 8 = .ok (.aload_n 0, 1) := by decide +kernel
theorem dX11_hear_9 : decode cX11_hear 9 = .ok (.getfield 7, 3) := by decide +kernel
theorem dX11_hear_12 : decode cX11_hear 12 = .ok (.sipush 384, 3) := by decide +kernel
theorem dX11_hear_15 : decode cX11_hear 15 = .ok (.iload 5, 2) := by decide +kernel
theorem dX11_hear_17 : decode cX11_hear 17 = .ok (.iadd, 1) := by decide +kernel
theorem dX11_hear_18 : decode cX11_hear 18 = .ok (.iload 4, 2) := by decide +kernel
theorem dX11_hear_20 : decode cX11_hear 20 = .ok (.iastore, 1) := by decide +kernel
theorem dX11_hear_21 : decode cX11_hear 21 = .ok (.iconst 0, 1) := by decide +kernel
theorem dX11_hear_22 : decode cX11_hear 22 = .ok (.istore 6, 2) := by decide +kernel
theorem dX11_hear_24 : decode cX11_hear 24 = .ok (.iload 6, 2) := by decide +kernel
theorem dX11_hear_26 : decode cX11_hear 26 = .ok (.iconst 2, 1) := by decide +kernel
theorem dX11_hear_27 : decode cX11_hear 27 = .ok (.if_icmp .ge 100, 3) := by decide +kernel
theorem dX11_hear_30 : decode cX11_hear 30 = .ok (.iconst 0, 1) := by decide +kernel
theorem dX11_hear_31 : decode cX11_hear 31 = .ok (.istore 7, 2) := by decide +kernel
theorem dX11_hear_33 : decode cX11_hear 33 = .ok (.iload 7, 2) := by decide +kernel
theorem dX11_hear_35 : decode cX11_hear 35 = .ok (.aload_n 0, 1) := by decide +kernel
theorem dX11_hear_36 : decode cX11_hear 36 = .ok (.getfield 7, 3) := by decide +kernel
theorem dX11_hear_39 : decode cX11_hear 39 = .ok (.bipush 16, 2) := by decide +kernel
theorem dX11_hear_41 : decode cX11_hear 41 = .ok (.iload_n 1, 1) := by decide +kernel
theorem dX11_hear_42 : decode cX11_hear 42 = .ok (.iadd, 1) := by decide +kernel
theorem dX11_hear_43 : decode cX11_hear 43 = .ok (.iaload, 1) := by decide +kernel
theorem dX11_hear_44 : decode cX11_hear 44 = .ok (.if_icmp .ge 77, 3) := by decide +kernel
theorem dX11_hear_47 : decode cX11_hear 47 = .ok (.aload_n 0, 1) := by decide +kernel
theorem dX11_hear_48 : decode cX11_hear 48 = .ok (.getfield 7, 3) := by decide +kernel
theorem dX11_hear_51 : decode cX11_hear 51 = .ok (.bipush 96, 2) := by decide +kernel
theorem dX11_hear_53 : decode cX11_hear 53 = .ok (.iconst 5, 1) := by decide +kernel
theorem dX11_hear_54 : decode cX11_hear 54 = .ok (.iload_n 1, 1) := by decide +kernel
theorem dX11_hear_55 : decode cX11_hear 55 = .ok (.imul, 1) := by decide +kernel
theorem dX11_hear_56 : decode cX11_hear 56 = .ok (.iadd, 1) := by decide +kernel
theorem dX11_hear_57 : decode cX11_hear 57 = .ok (.iload 7, 2) := by decide +kernel
theorem dX11_hear_59 : decode cX11_hear 59 = .ok (.iadd, 1) := by decide +kernel
theorem dX11_hear_60 : decode cX11_hear 60 = .ok (.iaload, 1) := by decide +kernel
theorem dX11_hear_61 : decode cX11_hear 61 = .ok (.istore 8, 2) := by decide +kernel
theorem dX11_hear_63 : decode cX11_hear 63 = .ok (.iload 8, 2) := by decide +kernel
theorem dX11_hear_65 : decode cX11_hear 65 = .ok (.iload_n 3, 1) := by decide +kernel
theorem dX11_hear_66 : decode cX11_hear 66 = .ok (.if_icmp .eq 49, 3) := by decide +kernel
theorem dX11_hear_69 : decode cX11_hear 69 = .ok (.aload_n 0, 1) := by decide +kernel
theorem dX11_hear_70 : decode cX11_hear 70 = .ok (.getfield 7, 3) := by decide +kernel
theorem dX11_hear_73 : decode cX11_hear 73 = .ok (.sipush 176, 3) := by decide +kernel
theorem dX11_hear_76 : decode cX11_hear 76 = .ok (.iconst 5, 1) := by decide +kernel
theorem dX11_hear_77 : decode cX11_hear 77 = .ok (.iload_n 1, 1) := by decide +kernel
theorem dX11_hear_78 : decode cX11_hear 78 = .ok (.imul, 1) := by decide +kernel
theorem dX11_hear_79 : decode cX11_hear 79 = .ok (.iadd, 1) := by decide +kernel
theorem dX11_hear_80 : decode cX11_hear 80 = .ok (.iload 7, 2) := by decide +kernel
theorem dX11_hear_82 : decode cX11_hear 82 = .ok (.iadd, 1) := by decide +kernel
theorem dX11_hear_83 : decode cX11_hear 83 = .ok (.iaload, 1) := by decide +kernel
theorem dX11_hear_84 : decode cX11_hear 84 = .ok (.iload 6, 2) := by decide +kernel
theorem dX11_hear_86 : decode cX11_hear 86 = .ok (.if_icmp .ne 29, 3) := by decide +kernel
theorem dX11_hear_89 : decode cX11_hear 89 = .ok (.aload_n 0, 1) := by decide +kernel
theorem dX11_hear_90 : decode cX11_hear 90 = .ok (.iload_n 1, 1) := by decide +kernel
theorem dX11_hear_91 : decode cX11_hear 91 = .ok (.iload 8, 2) := by decide +kernel
theorem dX11_hear_93 : decode cX11_hear 93 = .ok (.bipush 9, 2) := by decide +kernel
theorem dX11_hear_95 : decode cX11_hear 95 = .ok (.iload 6, 2) := by decide +kernel
theorem dX11_hear_97 : decode cX11_hear 97 = .ok (.iadd, 1) := by decide +kernel
theorem dX11_hear_98 : decode cX11_hear 98 = .ok (.iload_n 2, 1) := by decide +kernel
theorem dX11_hear_99 : decode cX11_hear 99 = .ok (.iload 6, 2) := by decide +kernel
theorem dX11_hear_101 : decode cX11_hear 101 = .ok (.ifCond .ne 10, 3) := by decide +kernel
theorem dX11_hear_104 : decode cX11_hear 104 = .ok (.iload 4, 2) := by decide +kernel
theorem dX11_hear_106 : decode cX11_hear 106 = .ok (.iconst 1, 1) := by decide +kernel
theorem dX11_hear_107 : decode cX11_hear 107 = .ok (.iadd, 1) := by decide +kernel
theorem dX11_hear_108 : decode cX11_hear 108 = .ok (.goto 4, 3) := by decide +kernel
theorem dX11_hear_111 : decode cX11_hear 111 = .ok (.iconst 0, 1) := by decide +kernel
theorem dX11_hear_112 : decode cX11_hear 112 = .ok (.invokevirtual 100, 3) := by decide +kernel
theorem dX11_hear_115 : decode cX11_hear 115 = .ok (.iinc 7 1, 3) := by decide +kernel
theorem dX11_hear_118 : decode cX11_hear 118 = .ok (.goto (-85), 3) := by decide +kernel
theorem dX11_hear_121 : decode cX11_hear 121 = .ok (.iinc 6 1, 3) := by decide +kernel
theorem dX11_hear_124 : decode cX11_hear 124 = .ok (.goto (-100), 3) := by decide +kernel
theorem dX11_hear_127 : decode cX11_hear 127 = .ok (.aload_n 0, 1) := by decide +kernel
theorem dX11_hear_128 : decode cX11_hear 128 = .ok (.getfield 7, 3) := by decide +kernel
theorem dX11_hear_131 : decode cX11_hear 131 = .ok (.sipush 768, 3) := by decide +kernel
theorem dX11_hear_134 : decode cX11_hear 134 = .ok (.iload 5, 2) := by decide +kernel
theorem dX11_hear_136 : decode cX11_hear 136 = .ok (.iadd, 1) := by decide +kernel
theorem dX11_hear_137 : decode cX11_hear 137 = .ok (.iconst 0, 1) := by decide +kernel
theorem dX11_hear_138 : decode cX11_hear 138 = .ok (.iastore, 1) := by decide +kernel
theorem dX11_hear_139 : decode cX11_hear 139 = .ok (.aload_n 0, 1) := by decide +kernel
theorem dX11_hear_140 : decode cX11_hear 140 = .ok (.getfield 7, 3) := by decide +kernel
theorem dX11_hear_143 : decode cX11_hear 143 = .ok (.sipush 1536, 3) := by decide +kernel
theorem dX11_hear_146 : decode cX11_hear 146 = .ok (.iload 5, 2) := by decide +kernel
theorem dX11_hear_148 : decode cX11_hear 148 = .ok (.iadd, 1) := by decide +kernel
theorem dX11_hear_149 : decode cX11_hear 149 = .ok (.iconst 0, 1) := by decide +kernel
theorem dX11_hear_150 : decode cX11_hear 150 = .ok (.iastore, 1) := by decide +kernel
theorem dX11_hear_151 : decode cX11_hear 151 = .ok (.return_, 1) := by decide +kernel
theorem dX11_tick_0 : decode cX11_tick 0 = .ok (.aload_n 0, 1) := by decide +kernel
theorem dX11_tick_1 : decode cX11_tick 1 = .ok (.getfield 7, 3) := by decide +kernel
theorem dX11_tick_4 : decode cX11_tick 4 = .ok (.sipush 10509, 3) := by decide +kernel
theorem dX11_tick_7 : decode cX11_tick 7 = .ok (.dup2, 1) := by decide +kernel
theorem dX11_tick_8 : decode cX11_tick 8 = .ok (.iaload, 1) := by decide +kernel
theorem dX11_tick_9 : decode cX11_tick 9 = .ok (.iconst 1, 1) := by decide +kernel
theorem dX11_tick_10 : decode cX11_tick 10 = .ok (.iadd, 1) := by decide +kernel
theorem dX11_tick_11 : decode cX11_tick 11 = .ok (.iastore, 1) := by decide +kernel
theorem dX11_tick_12 : decode cX11_tick 12 = .ok (.iconst 0, 1) := by decide +kernel
theorem dX11_tick_13 : decode cX11_tick 13 = .ok (.istore_n 1, 1) := by decide +kernel
theorem dX11_tick_14 : decode cX11_tick 14 = .ok (.iload_n 1, 1) := by decide +kernel
theorem dX11_tick_15 : decode cX11_tick 15 = .ok (.aload_n 0, 1) := by decide +kernel
theorem dX11_tick_16 : decode cX11_tick 16 = .ok (.getfield 7, 3) := by decide +kernel
theorem dX11_tick_19 : decode cX11_tick 19 = .ok (.sipush 10505, 3) := by decide +kernel
theorem dX11_tick_22 : decode cX11_tick 22 = .ok (.iaload, 1) := by decide +kernel
theorem dX11_tick_23 : decode cX11_tick 23 = .ok (.if_icmp .ge 90, 3) := by decide +kernel
theorem dX11_tick_26 : decode cX11_tick 26 = .ok (.iconst 0, 1) := by decide +kernel
theorem dX11_tick_27 : decode cX11_tick 27 = .ok (.istore_n 2, 1) := by decide +kernel
theorem dX11_tick_28 : decode cX11_tick 28 = .ok (.iload_n 2, 1) := by decide +kernel
theorem dX11_tick_29 : decode cX11_tick 29 = .ok (.aload_n 0, 1) := by decide +kernel
theorem dX11_tick_30 : decode cX11_tick 30 = .ok (.getfield 7, 3) := by decide +kernel
theorem dX11_tick_33 : decode cX11_tick 33 = .ok (.sipush 10506, 3) := by decide +kernel
theorem dX11_tick_36 : decode cX11_tick 36 = .ok (.iaload, 1) := by decide +kernel
theorem dX11_tick_37 : decode cX11_tick 37 = .ok (.if_icmp .ge 70, 3) := by decide +kernel
theorem dX11_tick_40 : decode cX11_tick 40 = .ok (.aload_n 0, 1) := by decide +kernel
theorem dX11_tick_41 : decode cX11_tick 41 = .ok (.getfield 7, 3) := by decide +kernel
theorem dX11_tick_44 : decode cX11_tick 44 = .ok (.iconst 0, 1) := by decide +kernel
theorem dX11_tick_45 : decode cX11_tick 45 = .ok (.iload_n 1, 1) := by decide +kernel
theorem dX11_tick_46 : decode cX11_tick 46 = .ok (.iadd, 1) := by decide +kernel
theorem dX11_tick_47 : decode cX11_tick 47 = .ok (.iaload, 1) := by decide +kernel
theorem dX11_tick_48 : decode cX11_tick 48 = .ok (.iconst 1, 1) := by decide +kernel
theorem dX11_tick_49 : decode cX11_tick 49 = .ok (.if_icmp .ne 58, 3) := by decide +kernel
theorem dX11_tick_52 : decode cX11_tick 52 = .ok (.bipush 24, 2) := by decide +kernel
theorem dX11_tick_54 : decode cX11_tick 54 = .ok (.iload_n 1, 1) := by decide +kernel
theorem dX11_tick_55 : decode cX11_tick 55 = .ok (.imul, 1) := by decide +kernel
theorem dX11_tick_56 : decode cX11_tick 56 = .ok (.iload_n 2, 1) := by decide +kernel
theorem dX11_tick_57 : decode cX11_tick 57 = .ok (.iadd, 1) := by decide +kernel
theorem dX11_tick_58 : decode cX11_tick 58 = .ok (.istore_n 3, 1) := by decide +kernel
theorem dX11_tick_59 : decode cX11_tick 59 = .ok (.aload_n 0, 1) := by decide +kernel
theorem dX11_tick_60 : decode cX11_tick 60 = .ok (.getfield 7, 3) := by decide +kernel
theorem dX11_tick_63 : decode cX11_tick 63 = .ok (.sipush 768, 3) := by decide +kernel
theorem dX11_tick_66 : decode cX11_tick 66 = .ok (.iload_n 3, 1) := by decide +kernel
theorem dX11_tick_67 : decode cX11_tick 67 = .ok (.iadd, 1) := by decide +kernel
theorem dX11_tick_68 : decode cX11_tick 68 = .ok (.iaload, 1) := by decide +kernel
theorem dX11_tick_69 : decode cX11_tick 69 = .ok (.iconst 1, 1) := by decide +kernel
theorem dX11_tick_70 : decode cX11_tick 70 = .ok (.if_icmp .ne 31, 3) := by decide +kernel
theorem dX11_tick_73 : decode cX11_tick 73 = .ok (.aload_n 0, 1) := by decide +kernel
theorem dX11_tick_74 : decode cX11_tick 74 = .ok (.getfield 7, 3) := by decide +kernel
theorem dX11_tick_77 : decode cX11_tick 77 = .ok (.sipush 1152, 3) := by decide +kernel
theorem dX11_tick_80 : decode cX11_tick 80 = .ok (.iload_n 3, 1) := by decide +kernel
theorem dX11_tick_81 : decode cX11_tick 81 = .ok (.iadd, 1) := by decide +kernel
theorem dX11_tick_82 : decode cX11_tick 82 = .ok (.iaload, 1) := by decide +kernel
theorem dX11_tick_83 : decode cX11_tick 83 = .ok (.aload_n 0, 1) := by decide +kernel
theorem dX11_tick_84 : decode cX11_tick 84 = .ok (.getfield 7, 3) := by decide +kernel
theorem dX11_tick_87 : decode cX11_tick 87 = .ok (.sipush 10509, 3) := by decide +kernel
theorem dX11_tick_90 : decode cX11_tick 90 = .ok (.iaload, 1) := by decide +kernel
theorem dX11_tick_91 : decode cX11_tick 91 = .ok (.if_icmp .gt 10, 3) := by decide +kernel
theorem dX11_tick_94 : decode cX11_tick 94 = .ok (.aload_n 0, 1) := by decide +kernel
theorem dX11_tick_95 : decode cX11_tick 95 = .ok (.iload_n 1, 1) := by decide +kernel
theorem dX11_tick_96 : decode cX11_tick 96 = .ok (.iload_n 2, 1) := by decide +kernel
theorem dX11_tick_97 : decode cX11_tick 97 = .ok (.iload_n 3, 1) := by decide +kernel
theorem dX11_tick_98 : decode cX11_tick 98 = .ok (.invokevirtual 138, 3) := by decide +kernel
theorem dX11_tick_101 : decode cX11_tick 101 = .ok (.iinc 2 1, 3) := by decide +kernel
theorem dX11_tick_104 : decode cX11_tick 104 = .ok (.goto (-76), 3) := by decide +kernel
theorem dX11_tick_107 : decode cX11_tick 107 = .ok (.iinc 1 1, 3) := by decide +kernel
theorem dX11_tick_110 : decode cX11_tick 110 = .ok (.goto (-96), 3) := by decide +kernel
theorem dX11_tick_113 : decode cX11_tick 113 = .ok (.aload_n 0, 1) := by decide +kernel
theorem dX11_tick_114 : decode cX11_tick 114 = .ok (.getfield 7, 3) := by decide +kernel
theorem dX11_tick_117 : decode cX11_tick 117 = .ok (.sipush 10509, 3) := by decide +kernel
theorem dX11_tick_120 : decode cX11_tick 120 = .ok (.iaload, 1) := by decide +kernel
theorem dX11_tick_121 : decode cX11_tick 121 = .ok (.ireturn, 1) := by decide +kernel
theorem dX11_fetch_0 : decode cX11_fetch 0 = .ok (.aload_n 0, 1) := by decide +kernel
theorem dX11_fetch_1 : decode cX11_fetch 1 = .ok (.getfield 7, 3) := by decide +kernel
theorem dX11_fetch_4 : decode cX11_fetch 4 = .ok (.sipush 1536, 3) := by decide +kernel
theorem dX11_fetch_7 : decode cX11_fetch 7 = .ok (.iload_n 3, 1) := by decide +kernel
theorem dX11_fetch_8 : decode cX11_fetch 8 = .ok (.iadd, 1) := by decide +kernel
theorem dX11_fetch_9 : decode cX11_fetch 9 = .ok (.iaload, 1) := by decide +kernel
theorem dX11_fetch_10 : decode cX11_fetch 10 = .ok (.ifCond .ne 15, 3) := by decide +kernel
theorem dX11_fetch_13 : decode cX11_fetch 13 = .ok (.aload_n 0, 1) := by decide +kernel
theorem dX11_fetch_14 : decode cX11_fetch 14 = .ok (.getfield 7, 3) := by decide +kernel
theorem dX11_fetch_17 : decode cX11_fetch 17 = .ok (.sipush 768, 3) := by decide +kernel
theorem dX11_fetch_20 : decode cX11_fetch 20 = .ok (.iload_n 3, 1) := by decide +kernel
theorem dX11_fetch_21 : decode cX11_fetch 21 = .ok (.iadd, 1) := by decide +kernel
theorem dX11_fetch_22 : decode cX11_fetch 22 = .ok (.iconst 0, 1) := by decide +kernel
theorem dX11_fetch_23 : decode cX11_fetch 23 = .ok (.iastore, 1) := by decide +kernel
theorem dX11_fetch_24 : decode cX11_fetch 24 = .ok (.return_, 1) := by decide +kernel
theorem dX11_fetch_25 : decode cX11_fetch 25 = .ok (.aload_n 0, 1) := by decide +kernel
theorem dX11_fetch_26 : decode cX11_fetch 26 = .ok (.getfield 7, 3) := by decide +kernel
theorem dX11_fetch_29 : decode cX11_fetch 29 = .ok (.sipush 1920, 3) := by decide +kernel
theorem dX11_fetch_32 : decode cX11_fetch 32 = .ok (.bipush 8, 2) := by decide +kernel
theorem dX11_fetch_34 : decode cX11_fetch 34 = .ok (.iload_n 3, 1) := by decide +kernel
theorem dX11_fetch_35 : decode cX11_fetch 35 = .ok (.imul, 1) := by decide +kernel
theorem dX11_fetch_36 : decode cX11_fetch 36 = .ok (.iadd, 1) := by decide +kernel
theorem dX11_fetch_37 : decode cX11_fetch 37 = .ok (.iaload, 1) := by decide +kernel
theorem dX11_fetch_38 : decode cX11_fetch 38 = .ok (.istore 4, 2) := by decide +kernel
theorem dX11_fetch_40 : decode cX11_fetch 40 = .ok (.aload_n 0, 1) := by decide +kernel
theorem dX11_fetch_41 : decode cX11_fetch 41 = .ok (.getfield 7, 3) := by decide +kernel
theorem dX11_fetch_44 : decode cX11_fetch 44 = .ok (.sipush 1536, 3) := by decide +kernel
theorem dX11_fetch_47 : decode cX11_fetch 47 = .ok (.iload_n 3, 1) := by decide +kernel
theorem dX11_fetch_48 : decode cX11_fetch 48 = .ok (.iadd, 1) := by decide +kernel
theorem dX11_fetch_49 : decode cX11_fetch 49 = .ok (.dup2, 1) := by decide +kernel
theorem dX11_fetch_50 : decode cX11_fetch 50 = .ok (.iaload, 1) := by decide +kernel
theorem dX11_fetch_51 : decode cX11_fetch 51 = .ok (.iconst 1, 1) := by decide +kernel
theorem dX11_fetch_52 : decode cX11_fetch 52 = .ok (.isub, 1) := by decide +kernel
theorem dX11_fetch_53 : decode cX11_fetch 53 = .ok (.iastore, 1) := by decide +kernel
theorem dX11_fetch_54 : decode cX11_fetch 54 = .ok (.iconst 0, 1) := by decide +kernel
theorem dX11_fetch_55 : decode cX11_fetch 55 = .ok (.istore 5, 2) := by decide +kernel
theorem dX11_fetch_57 : decode cX11_fetch 57 = .ok (.iload 5, 2) := by decide +kernel
theorem dX11_fetch_59 : decode cX11_fetch 59 = .ok (.aload_n 0, 1) := by decide +kernel
theorem dX11_fetch_60 : decode cX11_fetch 60 = .ok (.getfield 7, 3) := by decide +kernel
theorem dX11_fetch_63 : decode cX11_fetch 63 = .ok (.sipush 1536, 3) := by decide +kernel
theorem dX11_fetch_66 : decode cX11_fetch 66 = .ok (.iload_n 3, 1) := by decide +kernel
theorem dX11_fetch_67 : decode cX11_fetch 67 = .ok (.iadd, 1) := by decide +kernel
theorem dX11_fetch_68 : decode cX11_fetch 68 = .ok (.iaload, 1) := by decide +kernel
theorem dX11_fetch_69 : decode cX11_fetch 69 = .ok (.if_icmp .ge 43, 3) := by decide +kernel
theorem dX11_fetch_72 : decode cX11_fetch 72 = .ok (.aload_n 0, 1) := by decide +kernel
theorem dX11_fetch_73 : decode cX11_fetch 73 = .ok (.getfield 7, 3) := by decide +kernel
theorem dX11_fetch_76 : decode cX11_fetch 76 = .ok (.sipush 1920, 3) := by decide +kernel
theorem dX11_fetch_79 : decode cX11_fetch 79 = .ok (.bipush 8, 2) := by decide +kernel
theorem dX11_fetch_81 : decode cX11_fetch 81 = .ok (.iload_n 3, 1) := by decide +kernel
theorem dX11_fetch_82 : decode cX11_fetch 82 = .ok (.imul, 1) := by decide +kernel
theorem dX11_fetch_83 : decode cX11_fetch 83 = .ok (.iadd, 1) := by decide +kernel
theorem dX11_fetch_84 : decode cX11_fetch 84 = .ok (.iload 5, 2) := by decide +kernel
theorem dX11_fetch_86 : decode cX11_fetch 86 = .ok (.iadd, 1) := by decide +kernel
theorem dX11_fetch_87 : decode cX11_fetch 87 = .ok (.aload_n 0, 1) := by decide +kernel
theorem dX11_fetch_88 : decode cX11_fetch 88 = .ok (.getfield 7, 3) := by decide +kernel
theorem dX11_fetch_91 : decode cX11_fetch 91 = .ok (.sipush 1920, 3) := by decide +kernel
theorem dX11_fetch_94 : decode cX11_fetch 94 = .ok (.bipush 8, 2) := by decide +kernel
theorem dX11_fetch_96 : decode cX11_fetch 96 = .ok (.iload_n 3, 1) := by decide +kernel
theorem dX11_fetch_97 : decode cX11_fetch 97 = .ok (.imul, 1) := by decide +kernel
theorem dX11_fetch_98 : decode cX11_fetch 98 = .ok (.iadd, 1) := by decide +kernel
theorem dX11_fetch_99 : decode cX11_fetch 99 = .ok (.iload 5, 2) := by decide +kernel
theorem dX11_fetch_101 : decode cX11_fetch 101 = .ok (.iadd, 1) := by decide +kernel
theorem dX11_fetch_102 : decode cX11_fetch 102 = .ok (.iconst 1, 1) := by decide +kernel
theorem dX11_fetch_103 : decode cX11_fetch 103 = .ok (.iadd, 1) := by decide +kernel
theorem dX11_fetch_104 : decode cX11_fetch 104 = .ok (.iaload, 1) := by decide +kernel
theorem dX11_fetch_105 : decode cX11_fetch 105 = .ok (.iastore, 1) := by decide +kernel
theorem dX11_fetch_106 : decode cX11_fetch 106 = .ok (.iinc 5 1, 3) := by decide +kernel
theorem dX11_fetch_109 : decode cX11_fetch 109 = .ok (.goto (-52), 3) := by decide +kernel
theorem dX11_fetch_112 : decode cX11_fetch 112 = .ok (.aload_n 0, 1) := by decide +kernel
theorem dX11_fetch_113 : decode cX11_fetch 113 = .ok (.iload_n 1, 1) := by decide +kernel
theorem dX11_fetch_114 : decode cX11_fetch 114 = .ok (.iload 4, 2) := by decide +kernel
theorem dX11_fetch_116 : decode cX11_fetch 116 = .ok (.iconst 0, 1) := by decide +kernel
theorem dX11_fetch_117 : decode cX11_fetch 117 = .ok (.invokevirtual 142, 3) := by decide +kernel
theorem dX11_fetch_120 : decode cX11_fetch 120 = .ok (.aload_n 0, 1) := by decide +kernel
theorem dX11_fetch_121 : decode cX11_fetch 121 = .ok (.iload_n 1, 1) := by decide +kernel
theorem dX11_fetch_122 : decode cX11_fetch 122 = .ok (.iload 4, 2) := by decide +kernel
theorem dX11_fetch_124 : decode cX11_fetch 124 = .ok (.bipush 11, 2) := by decide +kernel
theorem dX11_fetch_126 : decode cX11_fetch 126 = .ok (.iload_n 2, 1) := by decide +kernel
theorem dX11_fetch_127 : decode cX11_fetch 127 = .ok (.iconst 1, 1) := by decide +kernel
theorem dX11_fetch_128 : decode cX11_fetch 128 = .ok (.invokevirtual 100, 3) := by decide +kernel
theorem dX11_fetch_131 : decode cX11_fetch 131 = .ok (.aload_n 0, 1) := by decide +kernel
theorem dX11_fetch_132 : decode cX11_fetch 132 = .ok (.getfield 7, 3) := by decide +kernel
theorem dX11_fetch_135 : decode cX11_fetch 135 = .ok (.sipush 1152, 3) := by decide +kernel
theorem dX11_fetch_138 : decode cX11_fetch 138 = .ok (.iload_n 3, 1) := by decide +kernel
theorem dX11_fetch_139 : decode cX11_fetch 139 = .ok (.iadd, 1) := by decide +kernel
theorem dX11_fetch_140 : decode cX11_fetch 140 = .ok (.aload_n 0, 1) := by decide +kernel
theorem dX11_fetch_141 : decode cX11_fetch 141 = .ok (.getfield 7, 3) := by decide +kernel
theorem dX11_fetch_144 : decode cX11_fetch 144 = .ok (.sipush 10509, 3) := by decide +kernel
theorem dX11_fetch_147 : decode cX11_fetch 147 = .ok (.iaload, 1) := by decide +kernel
theorem dX11_fetch_148 : decode cX11_fetch 148 = .ok (.aload_n 0, 1) := by decide +kernel
theorem dX11_fetch_149 : decode cX11_fetch 149 = .ok (.getfield 26, 3) := by decide +kernel
theorem dX11_fetch_152 : decode cX11_fetch 152 = .ok (.iconst 1, 1) := by decide +kernel
theorem dX11_fetch_153 : decode cX11_fetch 153 = .ok (.if_icmp .le 12, 3) := by decide +kernel
theorem dX11_fetch_156 : decode cX11_fetch 156 = .ok (.aload_n 0, 1) := by decide +kernel
theorem dX11_fetch_157 : decode cX11_fetch 157 = .ok (.getfield 26, 3) := by decide +kernel
theorem dX11_fetch_160 : decode cX11_fetch 160 = .ok (.iconst 2, 1) := by decide +kernel
theorem dX11_fetch_161 : decode cX11_fetch 161 = .ok (.idiv, 1) := by decide +kernel
theorem dX11_fetch_162 : decode cX11_fetch 162 = .ok (.goto 4, 3) := by decide +kernel
theorem dX11_fetch_165 : decode cX11_fetch 165 = .ok (.iconst 1, 1) := by decide +kernel
theorem dX11_fetch_166 : decode cX11_fetch 166 = .ok (.iadd, 1) := by decide +kernel
theorem dX11_fetch_167 : decode cX11_fetch 167 = .ok (.iastore, 1) := by decide +kernel
theorem dX11_fetch_168 : decode cX11_fetch 168 = .ok (.return_, 1) := by decide +kernel
theorem dX11_canCome_0 : decode cX11_canCome 0 = .ok (.iconst 1, 1) := by decide +kernel
theorem dX11_canCome_1 : decode cX11_canCome 1 = .ok (.istore_n 2, 1) := by decide +kernel
theorem dX11_canCome_2 : decode cX11_canCome 2 = .ok (.iconst 0, 1) := by decide +kernel
theorem dX11_canCome_3 : decode cX11_canCome 3 = .ok (.istore_n 3, 1) := by decide +kernel
theorem dX11_canCome_4 : decode cX11_canCome 4 = .ok (.iload_n 3, 1) := by decide +kernel
theorem dX11_canCome_5 : decode cX11_canCome 5 = .ok (.iload_n 1, 1) := by decide +kernel
theorem dX11_canCome_6 : decode cX11_canCome 6 = .ok (.if_icmp .ge 69, 3) := by decide +kernel
theorem dX11_canCome_9 : decode cX11_canCome 9 = .ok (.iload_n 2, 1) := by decide +kernel
theorem dX11_canCome_10 : decode cX11_canCome 10 = .ok (.ifCond .eq 65, 3) := by decide +kernel
theorem dX11_canCome_13 : decode cX11_canCome 13 = .ok (.aload_n 0, 1) := by decide +kernel
theorem dX11_canCome_14 : decode cX11_canCome 14 = .ok (.getfield 7, 3) := by decide +kernel
theorem dX11_canCome_17 : decode cX11_canCome 17 = .ok (.aload_n 0, 1) := by decide +kernel
theorem dX11_canCome_18 : decode cX11_canCome 18 = .ok (.iload_n 3, 1) := by decide +kernel
theorem dX11_canCome_19 : decode cX11_canCome 19 = .ok (.iconst 0, 1) := by decide +kernel
theorem dX11_canCome_20 : decode cX11_canCome 20 = .ok (.invokevirtual 68, 3) := by decide +kernel
theorem dX11_canCome_23 : decode cX11_canCome 23 = .ok (.iaload, 1) := by decide +kernel
theorem dX11_canCome_24 : decode cX11_canCome 24 = .ok (.aload_n 0, 1) := by decide +kernel
theorem dX11_canCome_25 : decode cX11_canCome 25 = .ok (.getfield 7, 3) := by decide +kernel
theorem dX11_canCome_28 : decode cX11_canCome 28 = .ok (.aload_n 0, 1) := by decide +kernel
theorem dX11_canCome_29 : decode cX11_canCome 29 = .ok (.iload_n 1, 1) := by decide +kernel
theorem dX11_canCome_30 : decode cX11_canCome 30 = .ok (.iconst 0, 1) := by decide +kernel
theorem dX11_canCome_31 : decode cX11_canCome 31 = .ok (.invokevirtual 68, 3) := by decide +kernel
theorem dX11_canCome_34 : decode cX11_canCome 34 = .ok (.iaload, 1) := by decide +kernel
theorem dX11_canCome_35 : decode cX11_canCome 35 = .ok (.if_icmp .ne 28, 3) := by decide +kernel
theorem dX11_canCome_38 : decode cX11_canCome 38 = .ok (.aload_n 0, 1) := by decide +kernel
theorem dX11_canCome_39 : decode cX11_canCome 39 = .ok (.getfield 7, 3) := by decide +kernel
theorem dX11_canCome_42 : decode cX11_canCome 42 = .ok (.aload_n 0, 1) := by decide +kernel
theorem dX11_canCome_43 : decode cX11_canCome 43 = .ok (.iload_n 3, 1) := by decide +kernel
theorem dX11_canCome_44 : decode cX11_canCome 44 = .ok (.iconst 1, 1) := by decide +kernel
theorem dX11_canCome_45 : decode cX11_canCome 45 = .ok (.invokevirtual 68, 3) := by decide +kernel
theorem dX11_canCome_48 : decode cX11_canCome 48 = .ok (.iaload, 1) := by decide +kernel
theorem dX11_canCome_49 : decode cX11_canCome 49 = .ok (.aload_n 0, 1) := by decide +kernel
theorem dX11_canCome_50 : decode cX11_canCome 50 = .ok (.getfield 7, 3) := by decide +kernel
theorem dX11_canCome_53 : decode cX11_canCome 53 = .ok (.aload_n 0, 1) := by decide +kernel
theorem dX11_canCome_54 : decode cX11_canCome 54 = .ok (.iload_n 1, 1) := by decide +kernel
theorem dX11_canCome_55 : decode cX11_canCome 55 = .ok (.iconst 1, 1) := by decide +kernel
theorem dX11_canCome_56 : decode cX11_canCome 56 = .ok (.invokevirtual 68, 3) := by decide +kernel
theorem dX11_canCome_59 : decode cX11_canCome 59 = .ok (.iaload, 1) := by decide +kernel
theorem dX11_canCome_60 : decode cX11_canCome 60 = .ok (.if_icmp .eq 7, 3) := by decide +kernel
theorem dX11_canCome_63 : decode cX11_canCome 63 = .ok (.iconst 1, 1) := by decide +kernel
theorem dX11_canCome_64 : decode cX11_canCome 64 = .ok (.goto 4, 3) := by decide +kernel
theorem dX11_canCome_67 : decode cX11_canCome 67 = .ok (.iconst 0, 1) := by decide +kernel
theorem dX11_canCome_68 : decode cX11_canCome 68 = .ok (.istore_n 2, 1) := by decide +kernel
theorem dX11_canCome_69 : decode cX11_canCome 69 = .ok (.iinc 3 1, 3) := by decide +kernel
theorem dX11_canCome_72 : decode cX11_canCome 72 = .ok (.goto (-68), 3) := by decide +kernel
theorem dX11_canCome_75 : decode cX11_canCome 75 = .ok (.iload_n 2, 1) := by decide +kernel
theorem dX11_canCome_76 : decode cX11_canCome 76 = .ok (.ireturn, 1) := by decide +kernel
theorem dX11_deliver_0 : decode cX11_deliver 0 = .ok (.iload_n 1, 1) := by decide +kernel
theorem dX11_deliver_1 : decode cX11_deliver 1 = .ok (.i2l, 1) := by decide +kernel
theorem dX11_deliver_2 : decode cX11_deliver 2 = .ok (.lconst 0, 1) := by decide +kernel
theorem dX11_deliver_3 : decode cX11_deliver 3 = .ok (.aload_n 0, 1) := by decide +kernel
theorem dX11_deliver_4 : decode cX11_deliver 4 = .ok (.getfield 7, 3) := by decide +kernel
theorem dX11_deliver_7 : decode cX11_deliver 7 = .ok (.sipush 10507, 3) := by decide +kernel
theorem dX11_deliver_10 : decode cX11_deliver 10 = .ok (.iaload, 1) := by decide +kernel
theorem dX11_deliver_11 : decode cX11_deliver 11 = .ok (.iconst 1, 1) := by decide +kernel
theorem dX11_deliver_12 : decode cX11_deliver 12 = .ok (.isub, 1) := by decide +kernel
theorem dX11_deliver_13 : decode cX11_deliver 13 = .ok (.i2l, 1) := by decide +kernel
theorem dX11_deliver_14 : decode cX11_deliver 14 = .ok (.invokestatic 51, 3) := by decide +kernel
theorem dX11_deliver_17 : decode cX11_deliver 17 = .ok (.ifCond .ne 5, 3) := by decide +kernel
theorem dX11_deliver_20 : decode cX11_deliver 20 = .ok (.iconst (-1), 1) := by decide +kernel
theorem dX11_deliver_21 : decode cX11_deliver 21 = .ok (.ireturn, 1) := by decide +kernel
theorem dX11_deliver_22 : decode cX11_deliver 22 = .ok (.aload_n 0, 1) := by decide +kernel
theorem dX11_deliver_23 : decode cX11_deliver 23 = .ok (.iload_n 1, 1) := by decide +kernel
theorem dX11_deliver_24 : decode cX11_deliver 24 = .ok (.invokevirtual 145, 3) := by decide +kernel
theorem dX11_deliver_27 : decode cX11_deliver 27 = .ok (.ifCond .eq 11, 3) := by decide +kernel
theorem dX11_deliver_30 : decode cX11_deliver 30 = .ok (.aload_n 0, 1) := by decide +kernel
theorem dX11_deliver_31 : decode cX11_deliver 31 = .ok (.iload_n 1, 1) := by decide +kernel
theorem dX11_deliver_32 : decode cX11_deliver 32 = .ok (.invokevirtual 148, 3) := by decide +kernel
theorem dX11_deliver_35 : decode cX11_deliver 35 = .ok (.goto 5, 3) := by decide +kernel
theorem dX11_deliver_38 : decode cX11_deliver 38 = .ok (.bipush (-5), 2) := by decide +kernel
theorem dX11_deliver_40 : decode cX11_deliver 40 = .ok (.ireturn, 1) := by decide +kernel
theorem dX11_go_0 : decode cX11_go 0 = .ok (.iload_n 1, 1) := by decide +kernel
theorem dX11_go_1 : decode cX11_go 1 = .ok (.i2l, 1) := by decide +kernel
theorem dX11_go_2 : decode cX11_go 2 = .ok (.lconst 0, 1) := by decide +kernel
theorem dX11_go_3 : decode cX11_go 3 = .ok (.ldc2_w 151, 3) := by decide +kernel
theorem dX11_go_6 : decode cX11_go 6 = .ok (.invokestatic 51, 3) := by decide +kernel
theorem dX11_go_9 : decode cX11_go 9 = .ok (.ifCond .ne 6, 3) := by decide +kernel
theorem dX11_go_12 : decode cX11_go 12 = .ok (.bipush (-2), 2) := by decide +kernel
theorem dX11_go_14 : decode cX11_go 14 = .ok (.ireturn, 1) := by decide +kernel
theorem dX11_go_15 : decode cX11_go 15 = .ok (.iconst 0, 1) := by decide +kernel
theorem dX11_go_16 : decode cX11_go 16 = .ok (.istore_n 2, 1) := by decide +kernel
theorem dX11_go_17 : decode cX11_go 17 = .ok (.iload_n 2, 1) := by decide +kernel
theorem dX11_go_18 : decode cX11_go 18 = .ok (.iload_n 1, 1) := by decide +kernel
theorem dX11_go_19 : decode cX11_go 19 = .ok (.if_icmp .ge 35, 3) := by decide +kernel
theorem dX11_go_22 : decode cX11_go 22 = .ok (.aload_n 0, 1) := by decide +kernel
theorem dX11_go_23 : decode cX11_go 23 = .ok (.getfield 7, 3) := by decide +kernel
theorem dX11_go_26 : decode cX11_go 26 = .ok (.sipush 10507, 3) := by decide +kernel
theorem dX11_go_29 : decode cX11_go 29 = .ok (.iaload, 1) := by decide +kernel
theorem dX11_go_30 : decode cX11_go 30 = .ok (.ifCond .le 24, 3) := by decide +kernel
theorem dX11_go_33 : decode cX11_go 33 = .ok (.aload_n 0, 1) := by decide +kernel
theorem dX11_go_34 : decode cX11_go 34 = .ok (.iconst 0, 1) := by decide +kernel
theorem dX11_go_35 : decode cX11_go 35 = .ok (.invokevirtual 148, 3) := by decide +kernel
theorem dX11_go_38 : decode cX11_go 38 = .ok (.istore_n 3, 1) := by decide +kernel
theorem dX11_go_39 : decode cX11_go 39 = .ok (.iload_n 2, 1) := by decide +kernel
theorem dX11_go_40 : decode cX11_go 40 = .ok (.iload_n 3, 1) := by decide +kernel
theorem dX11_go_41 : decode cX11_go 41 = .ok (.ifCond .le 7, 3) := by decide +kernel
theorem dX11_go_44 : decode cX11_go 44 = .ok (.iconst 1, 1) := by decide +kernel
theorem dX11_go_45 : decode cX11_go 45 = .ok (.goto 4, 3) := by decide +kernel
theorem dX11_go_48 : decode cX11_go 48 = .ok (.iconst 0, 1) := by decide +kernel
theorem dX11_go_49 : decode cX11_go 49 = .ok (.iadd, 1) := by decide +kernel
theorem dX11_go_50 : decode cX11_go 50 = .ok (.istore_n 2, 1) := by decide +kernel
theorem dX11_go_51 : decode cX11_go 51 = .ok (.goto (-34), 3) := by decide +kernel
theorem dX11_go_54 : decode cX11_go 54 = .ok (.iload_n 2, 1) := by decide +kernel
theorem dX11_go_55 : decode cX11_go 55 = .ok (.ireturn, 1) := by decide +kernel
theorem dX11_comes_0 : decode cX11_comes 0 = .ok (.aload_n 0, 1) := by decide +kernel
theorem dX11_comes_1 : decode cX11_comes 1 = .ok (.iload_n 1, 1) := by decide +kernel
theorem dX11_comes_2 : decode cX11_comes 2 = .ok (.iconst 0, 1) := by decide +kernel
theorem dX11_comes_3 : decode cX11_comes 3 = .ok (.invokevirtual 68, 3) := by decide +kernel
theorem dX11_comes_6 : decode cX11_comes 6 = .ok (.istore_n 2, 1) := by decide +kernel
theorem dX11_comes_7 : decode cX11_comes 7 = .ok (.aload_n 0, 1) := by decide +kernel
theorem dX11_comes_8 : decode cX11_comes 8 = .ok (.getfield 7, 3) := by decide +kernel
theorem dX11_comes_11 : decode cX11_comes 11 = .ok (.iload_n 2, 1) := by decide +kernel
theorem dX11_comes_12 : decode cX11_comes 12 = .ok (.iconst 0, 1) := by decide +kernel
theorem dX11_comes_13 : decode cX11_comes 13 = .ok (.iadd, 1) := by decide +kernel
theorem dX11_comes_14 : decode cX11_comes 14 = .ok (.iaload, 1) := by decide +kernel
theorem dX11_comes_15 : decode cX11_comes 15 = .ok (.istore_n 3, 1) := by decide +kernel
theorem dX11_comes_16 : decode cX11_comes 16 = .ok (.aload_n 0, 1) := by decide +kernel
theorem dX11_comes_17 : decode cX11_comes 17 = .ok (.getfield 7, 3) := by decide +kernel
theorem dX11_comes_20 : decode cX11_comes 20 = .ok (.iload_n 2, 1) := by decide +kernel
theorem dX11_comes_21 : decode cX11_comes 21 = .ok (.iconst 1, 1) := by decide +kernel
theorem dX11_comes_22 : decode cX11_comes 22 = .ok (.iadd, 1) := by decide +kernel
theorem dX11_comes_23 : decode cX11_comes 23 = .ok (.iaload, 1) := by decide +kernel
theorem dX11_comes_24 : decode cX11_comes 24 = .ok (.istore 4, 2) := by decide +kernel
theorem dX11_comes_26 : decode cX11_comes 26 = .ok (.aload_n 0, 1) := by decide +kernel
theorem dX11_comes_27 : decode cX11_comes 27 = .ok (.getfield 7, 3) := by decide +kernel
theorem dX11_comes_30 : decode cX11_comes 30 = .ok (.iload_n 2, 1) := by decide +kernel
theorem dX11_comes_31 : decode cX11_comes 31 = .ok (.iconst 2, 1) := by decide +kernel
theorem dX11_comes_32 : decode cX11_comes 32 = .ok (.iadd, 1) := by decide +kernel
theorem dX11_comes_33 : decode cX11_comes 33 = .ok (.iaload, 1) := by decide +kernel
theorem dX11_comes_34 : decode cX11_comes 34 = .ok (.istore 5, 2) := by decide +kernel
theorem dX11_comes_36 : decode cX11_comes 36 = .ok (.aload_n 0, 1) := by decide +kernel
theorem dX11_comes_37 : decode cX11_comes 37 = .ok (.getfield 7, 3) := by decide +kernel
theorem dX11_comes_40 : decode cX11_comes 40 = .ok (.iload_n 2, 1) := by decide +kernel
theorem dX11_comes_41 : decode cX11_comes 41 = .ok (.iconst 3, 1) := by decide +kernel
theorem dX11_comes_42 : decode cX11_comes 42 = .ok (.iadd, 1) := by decide +kernel
theorem dX11_comes_43 : decode cX11_comes 43 = .ok (.iaload, 1) := by decide +kernel
theorem dX11_comes_44 : decode cX11_comes 44 = .ok (.istore 6, 2) := by decide +kernel
theorem dX11_comes_46 : decode cX11_comes 46 = .ok (.aload_n 0, 1) := by decide +kernel
theorem dX11_comes_47 : decode cX11_comes 47 = .ok (.getfield 7, 3) := by decide +kernel
theorem dX11_comes_50 : decode cX11_comes 50 = .ok (.iload_n 2, 1) := by decide +kernel
theorem dX11_comes_51 : decode cX11_comes 51 = .ok (.iconst 4, 1) := by decide +kernel
theorem dX11_comes_52 : decode cX11_comes 52 = .ok (.iadd, 1) := by decide +kernel
theorem dX11_comes_53 : decode cX11_comes 53 = .ok (.iaload, 1) := by decide +kernel
theorem dX11_comes_54 : decode cX11_comes 54 = .ok (.istore 7, 2) := by decide +kernel
theorem dX11_comes_56 : decode cX11_comes 56 = .ok (.aload_n 0, 1) := by decide +kernel
theorem dX11_comes_57 : decode cX11_comes 57 = .ok (.aload_n 0, 1) := by decide +kernel
theorem dX11_comes_58 : decode cX11_comes 58 = .ok (.getfield 7, 3) := by decide +kernel
theorem dX11_comes_61 : decode cX11_comes 61 = .ok (.iload_n 2, 1) := by decide +kernel
theorem dX11_comes_62 : decode cX11_comes 62 = .ok (.iconst 5, 1) := by decide +kernel
theorem dX11_comes_63 : decode cX11_comes 63 = .ok (.iadd, 1) := by decide +kernel
theorem dX11_comes_64 : decode cX11_comes 64 = .ok (.iaload, 1) := by decide +kernel
theorem dX11_comes_65 : decode cX11_comes 65 = .ok (.putfield 153, 3) := by decide +kernel
theorem dX11_comes_68 : decode cX11_comes 68 = .ok (.iconst 0, 1) := by decide +kernel
theorem dX11_comes_69 : decode cX11_comes 69 = .ok (.istore 8, 2) := by decide +kernel
theorem dX11_comes_71 : decode cX11_comes 71 = .ok (.iload 8, 2) := by decide +kernel
theorem dX11_comes_73 : decode cX11_comes 73 = .ok (.iconst 5, 1) := by decide +kernel
theorem dX11_comes_74 : decode cX11_comes 74 = .ok (.if_icmp .ge 28, 3) := by decide +kernel
theorem dX11_comes_77 : decode cX11_comes 77 = .ok (.aload_n 0, 1) := by decide +kernel
theorem dX11_comes_78 : decode cX11_comes 78 = .ok (.getfield 38, 3) := by decide +kernel
theorem dX11_comes_81 : decode cX11_comes 81 = .ok (.iload 8, 2) := by decide +kernel
theorem dX11_comes_83 : decode cX11_comes 83 = .ok (.aload_n 0, 1) := by decide +kernel
theorem dX11_comes_84 : decode cX11_comes 84 = .ok (.getfield 7, 3) := by decide +kernel
theorem dX11_comes_87 : decode cX11_comes 87 = .ok (.iload_n 2, 1) := by decide +kernel
theorem dX11_comes_88 : decode cX11_comes 88 = .ok (.bipush 6, 2) := by decide +kernel
theorem dX11_comes_90 : decode cX11_comes 90 = .ok (.iadd, 1) := by decide +kernel
theorem dX11_comes_91 : decode cX11_comes 91 = .ok (.iload 8, 2) := by decide +kernel
theorem dX11_comes_93 : decode cX11_comes 93 = .ok (.iadd, 1) := by decide +kernel
theorem dX11_comes_94 : decode cX11_comes 94 = .ok (.iaload, 1) := by decide +kernel
theorem dX11_comes_95 : decode cX11_comes 95 = .ok (.iastore, 1) := by decide +kernel
theorem dX11_comes_96 : decode cX11_comes 96 = .ok (.iinc 8 1, 3) := by decide +kernel
theorem dX11_comes_99 : decode cX11_comes 99 = .ok (.goto (-28), 3) := by decide +kernel
theorem dX11_comes_102 : decode cX11_comes 102 = .ok (.aload_n 0, 1) := by decide +kernel
theorem dX11_comes_103 : decode cX11_comes 103 = .ok (.iload_n 1, 1) := by decide +kernel
theorem dX11_comes_104 : decode cX11_comes 104 = .ok (.invokevirtual 114, 3) := by decide +kernel
theorem dX11_comes_107 : decode cX11_comes 107 = .ok (.aload_n 0, 1) := by decide +kernel
theorem dX11_comes_108 : decode cX11_comes 108 = .ok (.getfield 7, 3) := by decide +kernel
theorem dX11_comes_111 : decode cX11_comes 111 = .ok (.sipush 10492, 3) := by decide +kernel
theorem dX11_comes_114 : decode cX11_comes 114 = .ok (.iload 5, 2) := by decide +kernel
theorem dX11_comes_116 : decode cX11_comes 116 = .ok (.iadd, 1) := by decide +kernel
theorem dX11_comes_117 : decode cX11_comes 117 = .ok (.dup2, 1) := by decide +kernel
theorem dX11_comes_118 : decode cX11_comes 118 = .ok (.iaload, 1) := by decide +kernel
theorem dX11_comes_119 : decode cX11_comes 119 = .ok (.iconst 1, 1) := by decide +kernel
theorem dX11_comes_120 : decode cX11_comes 120 = .ok (.iadd, 1) := by decide +kernel
theorem dX11_comes_121 : decode cX11_comes 121 = .ok (.iastore, 1) := by decide +kernel
theorem dX11_comes_122 : decode cX11_comes 122 = .ok (.aload_n 0, 1) := by decide +kernel
theorem dX11_comes_123 : decode cX11_comes 123 = .ok (.getfield 7, 3) := by decide +kernel
theorem dX11_comes_126 : decode cX11_comes 126 = .ok (.sipush 10492, 3) := by decide +kernel
theorem dX11_comes_129 : decode cX11_comes 129 = .ok (.dup2, 1) := by decide +kernel
theorem dX11_comes_130 : decode cX11_comes 130 = .ok (.iaload, 1) := by decide +kernel
theorem dX11_comes_131 : decode cX11_comes 131 = .ok (.iconst 1, 1) := by decide +kernel
theorem dX11_comes_132 : decode cX11_comes 132 = .ok (.iadd, 1) := by decide +kernel
theorem dX11_comes_133 : decode cX11_comes 133 = .ok (.iastore, 1) := by decide +kernel
theorem dX11_comes_134 : decode cX11_comes 134 = .ok (.aload_n 0, 1) := by decide +kernel
theorem dX11_comes_135 : decode cX11_comes 135 = .ok (.getfield 7, 3) := by decide +kernel
theorem dX11_comes_138 : decode cX11_comes 138 = .ok (.bipush 80, 2) := by decide +kernel
theorem dX11_comes_140 : decode cX11_comes 140 = .ok (.iload 4, 2) := by decide +kernel
theorem dX11_comes_142 : decode cX11_comes 142 = .ok (.iadd, 1) := by decide +kernel
theorem dX11_comes_143 : decode cX11_comes 143 = .ok (.dup2, 1) := by decide +kernel
theorem dX11_comes_144 : decode cX11_comes 144 = .ok (.iaload, 1) := by decide +kernel
theorem dX11_comes_145 : decode cX11_comes 145 = .ok (.iconst 1, 1) := by decide +kernel
theorem dX11_comes_146 : decode cX11_comes 146 = .ok (.iadd, 1) := by decide +kernel
theorem dX11_comes_147 : decode cX11_comes 147 = .ok (.iastore, 1) := by decide +kernel
theorem dX11_comes_148 : decode cX11_comes 148 = .ok (.iload 5, 2) := by decide +kernel
theorem dX11_comes_150 : decode cX11_comes 150 = .ok (.iconst 4, 1) := by decide +kernel
theorem dX11_comes_151 : decode cX11_comes 151 = .ok (.if_icmp .ge 19, 3) := by decide +kernel
theorem dX11_comes_154 : decode cX11_comes 154 = .ok (.aload_n 0, 1) := by decide +kernel
theorem dX11_comes_155 : decode cX11_comes 155 = .ok (.iload 4, 2) := by decide +kernel
theorem dX11_comes_157 : decode cX11_comes 157 = .ok (.iload_n 3, 1) := by decide +kernel
theorem dX11_comes_158 : decode cX11_comes 158 = .ok (.iload 5, 2) := by decide +kernel
theorem dX11_comes_160 : decode cX11_comes 160 = .ok (.iload 6, 2) := by decide +kernel
theorem dX11_comes_162 : decode cX11_comes 162 = .ok (.iload 7, 2) := by decide +kernel
theorem dX11_comes_164 : decode cX11_comes 164 = .ok (.invokevirtual 156, 3) := by decide +kernel
theorem dX11_comes_167 : decode cX11_comes 167 = .ok (.goto 67, 3) := by decide +kernel
theorem dX11_comes_170 : decode cX11_comes 170 = .ok (.iload 5, 2) := by decide +kernel
theorem dX11_comes_172 : decode cX11_comes 172 = .ok (.bipush 7, 2) := by decide +kernel
theorem dX11_comes_174 : decode cX11_comes 174 = .ok (.if_icmp .lt 10, 3) := by decide +kernel
theorem dX11_comes_177 : decode cX11_comes 177 = .ok (.iload 5, 2) := by decide +kernel
theorem dX11_comes_179 : decode cX11_comes 179 = .ok (.bipush 12, 2) := by decide +kernel
theorem dX11_comes_181 : decode cX11_comes 181 = .ok (.if_icmp .ne 17, 3) := by decide +kernel
theorem dX11_comes_184 : decode cX11_comes 184 = .ok (.aload_n 0, 1) := by decide +kernel
theorem dX11_comes_185 : decode cX11_comes 185 = .ok (.iload 4, 2) := by decide +kernel
theorem dX11_comes_187 : decode cX11_comes 187 = .ok (.iload_n 3, 1) := by decide +kernel
theorem dX11_comes_188 : decode cX11_comes 188 = .ok (.iload 5, 2) := by decide +kernel
theorem dX11_comes_190 : decode cX11_comes 190 = .ok (.iload 6, 2) := by decide +kernel
theorem dX11_comes_192 : decode cX11_comes 192 = .ok (.invokevirtual 159, 3) := by decide +kernel
theorem dX11_comes_195 : decode cX11_comes 195 = .ok (.goto 39, 3) := by decide +kernel
theorem dX11_comes_198 : decode cX11_comes 198 = .ok (.iload 5, 2) := by decide +kernel
theorem dX11_comes_200 : decode cX11_comes 200 = .ok (.bipush 9, 2) := by decide +kernel
theorem dX11_comes_202 : decode cX11_comes 202 = .ok (.if_icmp .ge 19, 3) := by decide +kernel
theorem dX11_comes_205 : decode cX11_comes 205 = .ok (.aload_n 0, 1) := by decide +kernel
theorem dX11_comes_206 : decode cX11_comes 206 = .ok (.iload 4, 2) := by decide +kernel
theorem dX11_comes_208 : decode cX11_comes 208 = .ok (.iload_n 3, 1) := by decide +kernel
theorem dX11_comes_209 : decode cX11_comes 209 = .ok (.iload 5, 2) := by decide +kernel
theorem dX11_comes_211 : decode cX11_comes 211 = .ok (.iload 6, 2) := by decide +kernel
theorem dX11_comes_213 : decode cX11_comes 213 = .ok (.iload 7, 2) := by decide +kernel
theorem dX11_comes_215 : decode cX11_comes 215 = .ok (.invokevirtual 162, 3) := by decide +kernel
theorem dX11_comes_218 : decode cX11_comes 218 = .ok (.goto 16, 3) := by decide +kernel
theorem dX11_comes_221 : decode cX11_comes 221 = .ok (.aload_n 0, 1) := by decide +kernel
theorem dX11_comes_222 : decode cX11_comes 222 = .ok (.iload 4, 2) := by decide +kernel
theorem dX11_comes_224 : decode cX11_comes 224 = .ok (.iload_n 3, 1) := by decide +kernel
theorem dX11_comes_225 : decode cX11_comes 225 = .ok (.iload 5, 2) := by decide +kernel
theorem dX11_comes_227 : decode cX11_comes 227 = .ok (.iload 6, 2) := by decide +kernel
theorem dX11_comes_229 : decode cX11_comes 229 = .ok (.iload 7, 2) := by decide +kernel
theorem dX11_comes_231 : decode cX11_comes 231 = .ok (.invokevirtual 165, 3) := by decide +kernel
theorem dX11_comes_234 : decode cX11_comes 234 = .ok (.iload 5, 2) := by decide +kernel
theorem dX11_comes_236 : decode cX11_comes 236 = .ok (.ireturn, 1) := by decide +kernel
theorem dX11_joins_0 : decode cX11_joins 0 = .ok (.iload_n 3, 1) := by decide +kernel
theorem dX11_joins_1 : decode cX11_joins 1 = .ok (.iconst 1, 1) := by decide +kernel
theorem dX11_joins_2 : decode cX11_joins 2 = .ok (.if_icmp .ne 64, 3) := by decide +kernel
theorem dX11_joins_5 : decode cX11_joins 5 = .ok (.aload_n 0, 1) := by decide +kernel
theorem dX11_joins_6 : decode cX11_joins 6 = .ok (.iload_n 1, 1) := by decide +kernel
theorem dX11_joins_7 : decode cX11_joins 7 = .ok (.iload_n 2, 1) := by decide +kernel
theorem dX11_joins_8 : decode cX11_joins 8 = .ok (.invokevirtual 168, 3) := by decide +kernel
theorem dX11_joins_11 : decode cX11_joins 11 = .ok (.aload_n 0, 1) := by decide +kernel
theorem dX11_joins_12 : decode cX11_joins 12 = .ok (.iload_n 1, 1) := by decide +kernel
theorem dX11_joins_13 : decode cX11_joins 13 = .ok (.iload_n 2, 1) := by decide +kernel
theorem dX11_joins_14 : decode cX11_joins 14 = .ok (.iload_n 2, 1) := by decide +kernel
theorem dX11_joins_15 : decode cX11_joins 15 = .ok (.invokevirtual 124, 3) := by decide +kernel
theorem dX11_joins_18 : decode cX11_joins 18 = .ok (.istore 6, 2) := by decide +kernel
theorem dX11_joins_20 : decode cX11_joins 20 = .ok (.iconst 0, 1) := by decide +kernel
theorem dX11_joins_21 : decode cX11_joins 21 = .ok (.istore 7, 2) := by decide +kernel
theorem dX11_joins_23 : decode cX11_joins 23 = .ok (.iload 7, 2) := by decide +kernel
theorem dX11_joins_25 : decode cX11_joins 25 = .ok (.iload 6, 2) := by decide +kernel
theorem dX11_joins_27 : decode cX11_joins 27 = .ok (.if_icmp .ge 27, 3) := by decide +kernel
theorem dX11_joins_30 : decode cX11_joins 30 = .ok (.aload_n 0, 1) := by decide +kernel
theorem dX11_joins_31 : decode cX11_joins 31 = .ok (.iload_n 1, 1) := by decide +kernel
theorem dX11_joins_32 : decode cX11_joins 32 = .ok (.aload_n 0, 1) := by decide +kernel
theorem dX11_joins_33 : decode cX11_joins 33 = .ok (.getfield 35, 3) := by decide +kernel
theorem dX11_joins_36 : decode cX11_joins 36 = .ok (.iload 7, 2) := by decide +kernel
theorem dX11_joins_38 : decode cX11_joins 38 = .ok (.iaload, 1) := by decide +kernel
theorem dX11_joins_39 : decode cX11_joins 39 = .ok (.iconst 2, 1) := by decide +kernel
theorem dX11_joins_40 : decode cX11_joins 40 = .ok (.iload_n 2, 1) := by decide +kernel
theorem dX11_joins_41 : decode cX11_joins 41 = .ok (.aload_n 0, 1) := by decide +kernel
theorem dX11_joins_42 : decode cX11_joins 42 = .ok (.getfield 20, 3) := by decide +kernel
theorem dX11_joins_45 : decode cX11_joins 45 = .ok (.invokevirtual 100, 3) := by decide +kernel
theorem dX11_joins_48 : decode cX11_joins 48 = .ok (.iinc 7 1, 3) := by decide +kernel
theorem dX11_joins_51 : decode cX11_joins 51 = .ok (.goto (-28), 3) := by decide +kernel
theorem dX11_joins_54 : decode cX11_joins 54 = .ok (.aload_n 0, 1) := by decide +kernel
theorem dX11_joins_55 : decode cX11_joins 55 = .ok (.iload_n 1, 1) := by decide +kernel
theorem dX11_joins_56 : decode cX11_joins 56 = .ok (.iload_n 2, 1) := by decide +kernel
theorem dX11_joins_57 : decode cX11_joins 57 = .ok (.iconst 3, 1) := by decide +kernel
theorem dX11_joins_58 : decode cX11_joins 58 = .ok (.iconst 0, 1) := by decide +kernel
theorem dX11_joins_59 : decode cX11_joins 59 = .ok (.iconst 0, 1) := by decide +kernel
theorem dX11_joins_60 : decode cX11_joins 60 = .ok (.invokevirtual 100, 3) := by decide +kernel
theorem dX11_joins_63 : decode cX11_joins 63 = .ok (.goto 43, 3) := by decide +kernel
theorem dX11_joins_66 : decode cX11_joins 66 = .ok (.iload_n 3, 1) := by decide +kernel
theorem dX11_joins_67 : decode cX11_joins 67 = .ok (.iconst 3, 1) := by decide +kernel
theorem dX11_joins_68 : decode cX11_joins 68 = .ok (.if_icmp .ne 22, 3) := by decide +kernel
theorem dX11_joins_71 : decode cX11_joins 71 = .ok (.aload_n 0, 1) := by decide +kernel
theorem dX11_joins_72 : decode cX11_joins 72 = .ok (.iload_n 1, 1) := by decide +kernel
theorem dX11_joins_73 : decode cX11_joins 73 = .ok (.iload_n 2, 1) := by decide +kernel
theorem dX11_joins_74 : decode cX11_joins 74 = .ok (.invokevirtual 168, 3) := by decide +kernel
theorem dX11_joins_77 : decode cX11_joins 77 = .ok (.aload_n 0, 1) := by decide +kernel
theorem dX11_joins_78 : decode cX11_joins 78 = .ok (.getfield 7, 3) := by decide +kernel
theorem dX11_joins_81 : decode cX11_joins 81 = .ok (.bipush 64, 2) := by decide +kernel
theorem dX11_joins_83 : decode cX11_joins 83 = .ok (.iload_n 1, 1) := by decide +kernel
theorem dX11_joins_84 : decode cX11_joins 84 = .ok (.iadd, 1) := by decide +kernel
theorem dX11_joins_85 : decode cX11_joins 85 = .ok (.iconst 0, 1) := by decide +kernel
theorem dX11_joins_86 : decode cX11_joins 86 = .ok (.iastore, 1) := by decide +kernel
theorem dX11_joins_87 : decode cX11_joins 87 = .ok (.goto 19, 3) := by decide +kernel
theorem dX11_joins_90 : decode cX11_joins 90 = .ok (.iload 4, 2) := by decide +kernel
theorem dX11_joins_92 : decode cX11_joins 92 = .ok (.iload_n 1, 1) := by decide +kernel
theorem dX11_joins_93 : decode cX11_joins 93 = .ok (.if_icmp .eq 13, 3) := by decide +kernel
theorem dX11_joins_96 : decode cX11_joins 96 = .ok (.aload_n 0, 1) := by decide +kernel
theorem dX11_joins_97 : decode cX11_joins 97 = .ok (.iload_n 1, 1) := by decide +kernel
theorem dX11_joins_98 : decode cX11_joins 98 = .ok (.iload_n 2, 1) := by decide +kernel
theorem dX11_joins_99 : decode cX11_joins 99 = .ok (.iload 4, 2) := by decide +kernel
theorem dX11_joins_101 : decode cX11_joins 101 = .ok (.iload 5, 2) := by decide +kernel
theorem dX11_joins_103 : decode cX11_joins 103 = .ok (.invokevirtual 171, 3) := by decide +kernel
theorem dX11_joins_106 : decode cX11_joins 106 = .ok (.return_, 1) := by decide +kernel
theorem dX11_goesOn_0 : decode cX11_goesOn 0 = .ok (.iload 4, 2) := by decide +kernel
theorem dX11_goesOn_2 : decode cX11_goesOn 2 = .ok (.ifCond .eq 16, 3) := by decide +kernel
theorem dX11_goesOn_5 : decode cX11_goesOn 5 = .ok (.aload_n 0, 1) := by decide +kernel
theorem dX11_goesOn_6 : decode cX11_goesOn 6 = .ok (.getfield 7, 3) := by decide +kernel
theorem dX11_goesOn_9 : decode cX11_goesOn 9 = .ok (.bipush 16, 2) := by decide +kernel
theorem dX11_goesOn_11 : decode cX11_goesOn 11 = .ok (.iload_n 1, 1) := by decide +kernel
theorem dX11_goesOn_12 : decode cX11_goesOn 12 = .ok (.iadd, 1) := by decide +kernel
theorem dX11_goesOn_13 : decode cX11_goesOn 13 = .ok (.iaload, 1) := by decide +kernel
theorem dX11_goesOn_14 : decode cX11_goesOn 14 = .ok (.iconst 2, 1) := by decide +kernel
theorem dX11_goesOn_15 : decode cX11_goesOn 15 = .ok (.if_icmp .ge 7, 3) := by decide +kernel
theorem dX11_goesOn_18 : decode cX11_goesOn 18 = .ok (.iconst 1, 1) := by decide +kernel
theorem dX11_goesOn_19 : decode cX11_goesOn 19 = .ok (.goto 4, 3) := by decide +kernel
theorem dX11_goesOn_22 : decode cX11_goesOn 22 = .ok (.iconst 0, 1) := by decide +kernel
theorem dX11_goesOn_23 : decode cX11_goesOn 23 = .ok (.istore 5, 2) := by decide +kernel
theorem dX11_goesOn_25 : decode cX11_goesOn 25 = .ok (.iload 5, 2) := by decide +kernel
theorem dX11_goesOn_27 : decode cX11_goesOn 27 = .ok (.ifCond .ne 70, 3) := by decide +kernel
theorem dX11_goesOn_30 : decode cX11_goesOn 30 = .ok (.iload 4, 2) := by decide +kernel
theorem dX11_goesOn_32 : decode cX11_goesOn 32 = .ok (.aload_n 0, 1) := by decide +kernel
theorem dX11_goesOn_33 : decode cX11_goesOn 33 = .ok (.getfield 23, 3) := by decide +kernel
theorem dX11_goesOn_36 : decode cX11_goesOn 36 = .ok (.if_icmp .ne 9, 3) := by decide +kernel
theorem dX11_goesOn_39 : decode cX11_goesOn 39 = .ok (.aload_n 0, 1) := by decide +kernel
theorem dX11_goesOn_40 : decode cX11_goesOn 40 = .ok (.iload_n 1, 1) := by decide +kernel
theorem dX11_goesOn_41 : decode cX11_goesOn 41 = .ok (.iload_n 3, 1) := by decide +kernel
theorem dX11_goesOn_42 : decode cX11_goesOn 42 = .ok (.invokevirtual 107, 3) := by decide +kernel
theorem dX11_goesOn_45 : decode cX11_goesOn 45 = .ok (.aload_n 0, 1) := by decide +kernel
theorem dX11_goesOn_46 : decode cX11_goesOn 46 = .ok (.iload_n 1, 1) := by decide +kernel
theorem dX11_goesOn_47 : decode cX11_goesOn 47 = .ok (.iload_n 2, 1) := by decide +kernel
theorem dX11_goesOn_48 : decode cX11_goesOn 48 = .ok (.iload_n 3, 1) := by decide +kernel
theorem dX11_goesOn_49 : decode cX11_goesOn 49 = .ok (.invokevirtual 124, 3) := by decide +kernel
theorem dX11_goesOn_52 : decode cX11_goesOn 52 = .ok (.istore 6, 2) := by decide +kernel
theorem dX11_goesOn_54 : decode cX11_goesOn 54 = .ok (.iload 6, 2) := by decide +kernel
theorem dX11_goesOn_56 : decode cX11_goesOn 56 = .ok (.ifCond .le 29, 3) := by decide +kernel
theorem dX11_goesOn_59 : decode cX11_goesOn 59 = .ok (.aload_n 0, 1) := by decide +kernel
theorem dX11_goesOn_60 : decode cX11_goesOn 60 = .ok (.getfield 35, 3) := by decide +kernel
theorem dX11_goesOn_63 : decode cX11_goesOn 63 = .ok (.aload_n 0, 1) := by decide +kernel
theorem dX11_goesOn_64 : decode cX11_goesOn 64 = .ok (.iload 6, 2) := by decide +kernel
theorem dX11_goesOn_66 : decode cX11_goesOn 66 = .ok (.invokevirtual 93, 3) := by decide +kernel
theorem dX11_goesOn_69 : decode cX11_goesOn 69 = .ok (.iaload, 1) := by decide +kernel
theorem dX11_goesOn_70 : decode cX11_goesOn 70 = .ok (.istore 7, 2) := by decide +kernel
theorem dX11_goesOn_72 : decode cX11_goesOn 72 = .ok (.aload_n 0, 1) := by decide +kernel
theorem dX11_goesOn_73 : decode cX11_goesOn 73 = .ok (.iload_n 1, 1) := by decide +kernel
theorem dX11_goesOn_74 : decode cX11_goesOn 74 = .ok (.iload 7, 2) := by decide +kernel
theorem dX11_goesOn_76 : decode cX11_goesOn 76 = .ok (.iconst 2, 1) := by decide +kernel
theorem dX11_goesOn_77 : decode cX11_goesOn 77 = .ok (.iload_n 3, 1) := by decide +kernel
theorem dX11_goesOn_78 : decode cX11_goesOn 78 = .ok (.iload 4, 2) := by decide +kernel
theorem dX11_goesOn_80 : decode cX11_goesOn 80 = .ok (.iconst 1, 1) := by decide +kernel
theorem dX11_goesOn_81 : decode cX11_goesOn 81 = .ok (.isub, 1) := by decide +kernel
theorem dX11_goesOn_82 : decode cX11_goesOn 82 = .ok (.invokevirtual 100, 3) := by decide +kernel
theorem dX11_goesOn_85 : decode cX11_goesOn 85 = .ok (.iload 6, 2) := by decide +kernel
theorem dX11_goesOn_87 : decode cX11_goesOn 87 = .ok (.ifCond .ne 7, 3) := by decide +kernel
theorem dX11_goesOn_90 : decode cX11_goesOn 90 = .ok (.iconst 1, 1) := by decide +kernel
theorem dX11_goesOn_91 : decode cX11_goesOn 91 = .ok (.goto 4, 3) := by decide +kernel
theorem dX11_goesOn_94 : decode cX11_goesOn 94 = .ok (.iconst 0, 1) := by decide +kernel
theorem dX11_goesOn_95 : decode cX11_goesOn 95 = .ok (.istore 5, 2) := by decide +kernel
theorem dX11_goesOn_97 : decode cX11_goesOn 97 = .ok (.iload 5, 2) := by decide +kernel
theorem dX11_goesOn_99 : decode cX11_goesOn 99 = .ok (.ifCond .eq 27, 3) := by decide +kernel
theorem dX11_goesOn_102 : decode cX11_goesOn 102 = .ok (.aload_n 0, 1) := by decide +kernel
theorem dX11_goesOn_103 : decode cX11_goesOn 103 = .ok (.iload_n 1, 1) := by decide +kernel
theorem dX11_goesOn_104 : decode cX11_goesOn 104 = .ok (.iload_n 3, 1) := by decide +kernel
theorem dX11_goesOn_105 : decode cX11_goesOn 105 = .ok (.invokevirtual 89, 3) := by decide +kernel
theorem dX11_goesOn_108 : decode cX11_goesOn 108 = .ok (.ifCond .ne 18, 3) := by decide +kernel
theorem dX11_goesOn_111 : decode cX11_goesOn 111 = .ok (.aload_n 0, 1) := by decide +kernel
theorem dX11_goesOn_112 : decode cX11_goesOn 112 = .ok (.iload_n 1, 1) := by decide +kernel
theorem dX11_goesOn_113 : decode cX11_goesOn 113 = .ok (.iload_n 3, 1) := by decide +kernel
theorem dX11_goesOn_114 : decode cX11_goesOn 114 = .ok (.invokevirtual 168, 3) := by decide +kernel
theorem dX11_goesOn_117 : decode cX11_goesOn 117 = .ok (.aload_n 0, 1) := by decide +kernel
theorem dX11_goesOn_118 : decode cX11_goesOn 118 = .ok (.iload_n 1, 1) := by decide +kernel
theorem dX11_goesOn_119 : decode cX11_goesOn 119 = .ok (.iload_n 3, 1) := by decide +kernel
theorem dX11_goesOn_120 : decode cX11_goesOn 120 = .ok (.iconst 3, 1) := by decide +kernel
theorem dX11_goesOn_121 : decode cX11_goesOn 121 = .ok (.iconst 0, 1) := by decide +kernel
theorem dX11_goesOn_122 : decode cX11_goesOn 122 = .ok (.iconst 0, 1) := by decide +kernel
theorem dX11_goesOn_123 : decode cX11_goesOn 123 = .ok (.invokevirtual 100, 3) := by decide +kernel
theorem dX11_goesOn_126 : decode cX11_goesOn 126 = .ok (.return_, 1) := by decide +kernel
theorem dX11_mends_0 : decode cX11_mends 0 = .ok (.iload_n 3, 1) := by decide +kernel
theorem dX11_mends_1 : decode cX11_mends 1 = .ok (.tableswitch 172 4 6 #[27, 56, 118], 27) := by decide +kernel
theorem dX11_mends_28 : decode cX11_mends 28 = .ok (.aload_n 0, 1) := by decide +kernel
theorem dX11_mends_29 : decode cX11_mends 29 = .ok (.iload_n 1, 1) := by decide +kernel
theorem dX11_mends_30 : decode cX11_mends 30 = .ok (.iload_n 2, 1) := by decide +kernel
theorem dX11_mends_31 : decode cX11_mends 31 = .ok (.invokevirtual 89, 3) := by decide +kernel
theorem dX11_mends_34 : decode cX11_mends 34 = .ok (.ifCond .eq 180, 3) := by decide +kernel
theorem dX11_mends_37 : decode cX11_mends 37 = .ok (.aload_n 0, 1) := by decide +kernel
theorem dX11_mends_38 : decode cX11_mends 38 = .ok (.iload_n 1, 1) := by decide +kernel
theorem dX11_mends_39 : decode cX11_mends 39 = .ok (.iload_n 2, 1) := by decide +kernel
theorem dX11_mends_40 : decode cX11_mends 40 = .ok (.invokevirtual 104, 3) := by decide +kernel
theorem dX11_mends_43 : decode cX11_mends 43 = .ok (.aload_n 0, 1) := by decide +kernel
theorem dX11_mends_44 : decode cX11_mends 44 = .ok (.iload_n 1, 1) := by decide +kernel
theorem dX11_mends_45 : decode cX11_mends 45 = .ok (.iload_n 2, 1) := by decide +kernel
theorem dX11_mends_46 : decode cX11_mends 46 = .ok (.invokevirtual 107, 3) := by decide +kernel
theorem dX11_mends_49 : decode cX11_mends 49 = .ok (.aload_n 0, 1) := by decide +kernel
theorem dX11_mends_50 : decode cX11_mends 50 = .ok (.iload_n 1, 1) := by decide +kernel
theorem dX11_mends_51 : decode cX11_mends 51 = .ok (.invokevirtual 174, 3) := by decide +kernel
theorem dX11_mends_54 : decode cX11_mends 54 = .ok (.goto 160, 3) := by decide +kernel
theorem dX11_mends_57 : decode cX11_mends 57 = .ok (.iload 4, 2) := by decide +kernel
theorem dX11_mends_59 : decode cX11_mends 59 = .ok (.iconst 1, 1) := by decide +kernel
theorem dX11_mends_60 : decode cX11_mends 60 = .ok (.if_icmp .eq 28, 3) := by decide +kernel
theorem dX11_mends_63 : decode cX11_mends 63 = .ok (.aload_n 0, 1) := by decide +kernel
theorem dX11_mends_64 : decode cX11_mends 64 = .ok (.getfield 7, 3) := by decide +kernel
theorem dX11_mends_67 : decode cX11_mends 67 = .ok (.bipush 16, 2) := by decide +kernel
theorem dX11_mends_69 : decode cX11_mends 69 = .ok (.iload_n 1, 1) := by decide +kernel
theorem dX11_mends_70 : decode cX11_mends 70 = .ok (.iadd, 1) := by decide +kernel
theorem dX11_mends_71 : decode cX11_mends 71 = .ok (.iaload, 1) := by decide +kernel
theorem dX11_mends_72 : decode cX11_mends 72 = .ok (.aload_n 0, 1) := by decide +kernel
theorem dX11_mends_73 : decode cX11_mends 73 = .ok (.getfield 13, 3) := by decide +kernel
theorem dX11_mends_76 : decode cX11_mends 76 = .ok (.if_icmp .lt 12, 3) := by decide +kernel
theorem dX11_mends_79 : decode cX11_mends 79 = .ok (.aload_n 0, 1) := by decide +kernel
theorem dX11_mends_80 : decode cX11_mends 80 = .ok (.iload_n 1, 1) := by decide +kernel
theorem dX11_mends_81 : decode cX11_mends 81 = .ok (.iload_n 2, 1) := by decide +kernel
theorem dX11_mends_82 : decode cX11_mends 82 = .ok (.invokevirtual 89, 3) := by decide +kernel
theorem dX11_mends_85 : decode cX11_mends 85 = .ok (.ifCond .eq 21, 3) := by decide +kernel
theorem dX11_mends_88 : decode cX11_mends 88 = .ok (.aload_n 0, 1) := by decide +kernel
theorem dX11_mends_89 : decode cX11_mends 89 = .ok (.iload_n 1, 1) := by decide +kernel
theorem dX11_mends_90 : decode cX11_mends 90 = .ok (.iload_n 2, 1) := by decide +kernel
theorem dX11_mends_91 : decode cX11_mends 91 = .ok (.invokevirtual 168, 3) := by decide +kernel
theorem dX11_mends_94 : decode cX11_mends 94 = .ok (.aload_n 0, 1) := by decide +kernel
theorem dX11_mends_95 : decode cX11_mends 95 = .ok (.iload_n 1, 1) := by decide +kernel
theorem dX11_mends_96 : decode cX11_mends 96 = .ok (.iload_n 2, 1) := by decide +kernel
theorem dX11_mends_97 : decode cX11_mends 97 = .ok (.iconst 3, 1) := by decide +kernel
theorem dX11_mends_98 : decode cX11_mends 98 = .ok (.iconst 0, 1) := by decide +kernel
theorem dX11_mends_99 : decode cX11_mends 99 = .ok (.iconst 0, 1) := by decide +kernel
theorem dX11_mends_100 : decode cX11_mends 100 = .ok (.invokevirtual 100, 3) := by decide +kernel
theorem dX11_mends_103 : decode cX11_mends 103 = .ok (.goto 111, 3) := by decide +kernel
theorem dX11_mends_106 : decode cX11_mends 106 = .ok (.aload_n 0, 1) := by decide +kernel
theorem dX11_mends_107 : decode cX11_mends 107 = .ok (.iload_n 1, 1) := by decide +kernel
theorem dX11_mends_108 : decode cX11_mends 108 = .ok (.iload_n 2, 1) := by decide +kernel
theorem dX11_mends_109 : decode cX11_mends 109 = .ok (.bipush 6, 2) := by decide +kernel
theorem dX11_mends_111 : decode cX11_mends 111 = .ok (.iconst 0, 1) := by decide +kernel
theorem dX11_mends_112 : decode cX11_mends 112 = .ok (.iconst 0, 1) := by decide +kernel
theorem dX11_mends_113 : decode cX11_mends 113 = .ok (.invokevirtual 100, 3) := by decide +kernel
theorem dX11_mends_116 : decode cX11_mends 116 = .ok (.goto 98, 3) := by decide +kernel
theorem dX11_mends_119 : decode cX11_mends 119 = .ok (.aload_n 0, 1) := by decide +kernel
theorem dX11_mends_120 : decode cX11_mends 120 = .ok (.getfield 7, 3) := by decide +kernel
theorem dX11_mends_123 : decode cX11_mends 123 = .ok (.bipush 48, 2) := by decide +kernel
theorem dX11_mends_125 : decode cX11_mends 125 = .ok (.iload_n 1, 1) := by decide +kernel
theorem dX11_mends_126 : decode cX11_mends 126 = .ok (.iadd, 1) := by decide +kernel
theorem dX11_mends_127 : decode cX11_mends 127 = .ok (.iaload, 1) := by decide +kernel
theorem dX11_mends_128 : decode cX11_mends 128 = .ok (.iload_n 2, 1) := by decide +kernel
theorem dX11_mends_129 : decode cX11_mends 129 = .ok (.if_icmp .ne 85, 3) := by decide +kernel
theorem dX11_mends_132 : decode cX11_mends 132 = .ok (.aload_n 0, 1) := by decide +kernel
theorem dX11_mends_133 : decode cX11_mends 133 = .ok (.getfield 7, 3) := by decide +kernel
theorem dX11_mends_136 : decode cX11_mends 136 = .ok (.bipush 48, 2) := by decide +kernel
theorem dX11_mends_138 : decode cX11_mends 138 = .ok (.iload_n 1, 1) := by decide +kernel
theorem dX11_mends_139 : decode cX11_mends 139 = .ok (.iadd, 1) := by decide +kernel
theorem dX11_mends_140 : decode cX11_mends 140 = .ok (.bipush (-6), 2) := by decide +kernel
theorem dX11_mends_142 : decode cX11_mends 142 = .ok (.iastore, 1) := by decide +kernel
theorem dX11_mends_143 : decode cX11_mends 143 = .ok (.aload_n 0, 1) := by decide +kernel
theorem dX11_mends_144 : decode cX11_mends 144 = .ok (.getfield 7, 3) := by decide +kernel
theorem dX11_mends_147 : decode cX11_mends 147 = .ok (.bipush 64, 2) := by decide +kernel
theorem dX11_mends_149 : decode cX11_mends 149 = .ok (.iload_n 1, 1) := by decide +kernel
theorem dX11_mends_150 : decode cX11_mends 150 = .ok (.iadd, 1) := by decide +kernel
theorem dX11_mends_151 : decode cX11_mends 151 = .ok (.aload_n 0, 1) := by decide +kernel
theorem dX11_mends_152 : decode cX11_mends 152 = .ok (.getfield 7, 3) := by decide +kernel
theorem dX11_mends_155 : decode cX11_mends 155 = .ok (.bipush 64, 2) := by decide +kernel
theorem dX11_mends_157 : decode cX11_mends 157 = .ok (.iload_n 1, 1) := by decide +kernel
theorem dX11_mends_158 : decode cX11_mends 158 = .ok (.iadd, 1) := by decide +kernel
theorem dX11_mends_159 : decode cX11_mends 159 = .ok (.iaload, 1) := by decide +kernel
theorem dX11_mends_160 : decode cX11_mends 160 = .ok (.iconst 1, 1) := by decide +kernel
theorem dX11_mends_161 : decode cX11_mends 161 = .ok (.iload_n 2, 1) := by decide +kernel
theorem dX11_mends_162 : decode cX11_mends 162 = .ok (.ishl, 1) := by decide +kernel
theorem dX11_mends_163 : decode cX11_mends 163 = .ok (.ior, 1) := by decide +kernel
theorem dX11_mends_164 : decode cX11_mends 164 = .ok (.iastore, 1) := by decide +kernel
theorem dX11_mends_165 : decode cX11_mends 165 = .ok (.aload_n 0, 1) := by decide +kernel
theorem dX11_mends_166 : decode cX11_mends 166 = .ok (.iload_n 1, 1) := by decide +kernel
theorem dX11_mends_167 : decode cX11_mends 167 = .ok (.invokevirtual 174, 3) := by decide +kernel
theorem dX11_mends_170 : decode cX11_mends 170 = .ok (.goto 44, 3) := by decide +kernel
theorem dX11_mends_173 : decode cX11_mends 173 = .ok (.aload_n 0, 1) := by decide +kernel
theorem dX11_mends_174 : decode cX11_mends 174 = .ok (.iload_n 1, 1) := by decide +kernel
theorem dX11_mends_175 : decode cX11_mends 175 = .ok (.iload_n 2, 1) := by decide +kernel
theorem dX11_mends_176 : decode cX11_mends 176 = .ok (.invokevirtual 104, 3) := by decide +kernel
theorem dX11_mends_179 : decode cX11_mends 179 = .ok (.aload_n 0, 1) := by decide +kernel
theorem dX11_mends_180 : decode cX11_mends 180 = .ok (.iload_n 1, 1) := by decide +kernel
theorem dX11_mends_181 : decode cX11_mends 181 = .ok (.iload_n 2, 1) := by decide +kernel
theorem dX11_mends_182 : decode cX11_mends 182 = .ok (.invokevirtual 97, 3) := by decide +kernel
theorem dX11_mends_185 : decode cX11_mends 185 = .ok (.aload_n 0, 1) := by decide +kernel
theorem dX11_mends_186 : decode cX11_mends 186 = .ok (.getfield 7, 3) := by decide +kernel
theorem dX11_mends_189 : decode cX11_mends 189 = .ok (.bipush 48, 2) := by decide +kernel
theorem dX11_mends_191 : decode cX11_mends 191 = .ok (.iload_n 1, 1) := by decide +kernel
theorem dX11_mends_192 : decode cX11_mends 192 = .ok (.iadd, 1) := by decide +kernel
theorem dX11_mends_193 : decode cX11_mends 193 = .ok (.iaload, 1) := by decide +kernel
theorem dX11_mends_194 : decode cX11_mends 194 = .ok (.iload_n 2, 1) := by decide +kernel
theorem dX11_mends_195 : decode cX11_mends 195 = .ok (.if_icmp .ne 14, 3) := by decide +kernel
theorem dX11_mends_198 : decode cX11_mends 198 = .ok (.aload_n 0, 1) := by decide +kernel
theorem dX11_mends_199 : decode cX11_mends 199 = .ok (.getfield 7, 3) := by decide +kernel
theorem dX11_mends_202 : decode cX11_mends 202 = .ok (.bipush 48, 2) := by decide +kernel
theorem dX11_mends_204 : decode cX11_mends 204 = .ok (.iload_n 1, 1) := by decide +kernel
theorem dX11_mends_205 : decode cX11_mends 205 = .ok (.iadd, 1) := by decide +kernel
theorem dX11_mends_206 : decode cX11_mends 206 = .ok (.bipush (-6), 2) := by decide +kernel
theorem dX11_mends_208 : decode cX11_mends 208 = .ok (.iastore, 1) := by decide +kernel
theorem dX11_mends_209 : decode cX11_mends 209 = .ok (.aload_n 0, 1) := by decide +kernel
theorem dX11_mends_210 : decode cX11_mends 210 = .ok (.iload_n 1, 1) := by decide +kernel
theorem dX11_mends_211 : decode cX11_mends 211 = .ok (.invokevirtual 174, 3) := by decide +kernel
theorem dX11_mends_214 : decode cX11_mends 214 = .ok (.return_, 1) := by decide +kernel
theorem dX11_mixes_0 : decode cX11_mixes 0 = .ok (.iload_n 3, 1) := by decide +kernel
theorem dX11_mixes_1 : decode cX11_mixes 1 = .ok (.bipush 7, 2) := by decide +kernel
theorem dX11_mixes_3 : decode cX11_mixes 3 = .ok (.if_icmp .ne 175, 3) := by decide +kernel
theorem dX11_mixes_6 : decode cX11_mixes 6 = .ok (.aload_n 0, 1) := by decide +kernel
theorem dX11_mixes_7 : decode cX11_mixes 7 = .ok (.iload_n 1, 1) := by decide +kernel
theorem dX11_mixes_8 : decode cX11_mixes 8 = .ok (.iload_n 2, 1) := by decide +kernel
theorem dX11_mixes_9 : decode cX11_mixes 9 = .ok (.iload 4, 2) := by decide +kernel
theorem dX11_mixes_11 : decode cX11_mixes 11 = .ok (.invokevirtual 124, 3) := by decide +kernel
theorem dX11_mixes_14 : decode cX11_mixes 14 = .ok (.istore 6, 2) := by decide +kernel
theorem dX11_mixes_16 : decode cX11_mixes 16 = .ok (.iload 5, 2) := by decide +kernel
theorem dX11_mixes_18 : decode cX11_mixes 18 = .ok (.iconst 1, 1) := by decide +kernel
theorem dX11_mixes_19 : decode cX11_mixes 19 = .ok (.if_icmp .le 73, 3) := by decide +kernel
theorem dX11_mixes_22 : decode cX11_mixes 22 = .ok (.iload 6, 2) := by decide +kernel
theorem dX11_mixes_24 : decode cX11_mixes 24 = .ok (.ifCond .le 68, 3) := by decide +kernel
theorem dX11_mixes_27 : decode cX11_mixes 27 = .ok (.aload_n 0, 1) := by decide +kernel
theorem dX11_mixes_28 : decode cX11_mixes 28 = .ok (.getfield 35, 3) := by decide +kernel
theorem dX11_mixes_31 : decode cX11_mixes 31 = .ok (.aload_n 0, 1) := by decide +kernel
theorem dX11_mixes_32 : decode cX11_mixes 32 = .ok (.iload 6, 2) := by decide +kernel
theorem dX11_mixes_34 : decode cX11_mixes 34 = .ok (.invokevirtual 93, 3) := by decide +kernel
theorem dX11_mixes_37 : decode cX11_mixes 37 = .ok (.iaload, 1) := by decide +kernel
theorem dX11_mixes_38 : decode cX11_mixes 38 = .ok (.istore 7, 2) := by decide +kernel
theorem dX11_mixes_40 : decode cX11_mixes 40 = .ok (.iconst 0, 1) := by decide +kernel
theorem dX11_mixes_41 : decode cX11_mixes 41 = .ok (.istore 8, 2) := by decide +kernel
theorem dX11_mixes_43 : decode cX11_mixes 43 = .ok (.iload 8, 2) := by decide +kernel
theorem dX11_mixes_45 : decode cX11_mixes 45 = .ok (.aload_n 0, 1) := by decide +kernel
theorem dX11_mixes_46 : decode cX11_mixes 46 = .ok (.getfield 153, 3) := by decide +kernel
theorem dX11_mixes_49 : decode cX11_mixes 49 = .ok (.if_icmp .ge 23, 3) := by decide +kernel
theorem dX11_mixes_52 : decode cX11_mixes 52 = .ok (.aload_n 0, 1) := by decide +kernel
theorem dX11_mixes_53 : decode cX11_mixes 53 = .ok (.getfield 32, 3) := by decide +kernel
theorem dX11_mixes_56 : decode cX11_mixes 56 = .ok (.iload 8, 2) := by decide +kernel
theorem dX11_mixes_58 : decode cX11_mixes 58 = .ok (.aload_n 0, 1) := by decide +kernel
theorem dX11_mixes_59 : decode cX11_mixes 59 = .ok (.getfield 38, 3) := by decide +kernel
theorem dX11_mixes_62 : decode cX11_mixes 62 = .ok (.iload 8, 2) := by decide +kernel
theorem dX11_mixes_64 : decode cX11_mixes 64 = .ok (.iaload, 1) := by decide +kernel
theorem dX11_mixes_65 : decode cX11_mixes 65 = .ok (.iastore, 1) := by decide +kernel
theorem dX11_mixes_66 : decode cX11_mixes 66 = .ok (.iinc 8 1, 3) := by decide +kernel
theorem dX11_mixes_69 : decode cX11_mixes 69 = .ok (.goto (-26), 3) := by decide +kernel
theorem dX11_mixes_72 : decode cX11_mixes 72 = .ok (.aload_n 0, 1) := by decide +kernel
theorem dX11_mixes_73 : decode cX11_mixes 73 = .ok (.iload_n 1, 1) := by decide +kernel
theorem dX11_mixes_74 : decode cX11_mixes 74 = .ok (.iload 7, 2) := by decide +kernel
theorem dX11_mixes_76 : decode cX11_mixes 76 = .ok (.bipush 7, 2) := by decide +kernel
theorem dX11_mixes_78 : decode cX11_mixes 78 = .ok (.iload 4, 2) := by decide +kernel
theorem dX11_mixes_80 : decode cX11_mixes 80 = .ok (.iload 5, 2) := by decide +kernel
theorem dX11_mixes_82 : decode cX11_mixes 82 = .ok (.iconst 1, 1) := by decide +kernel
theorem dX11_mixes_83 : decode cX11_mixes 83 = .ok (.isub, 1) := by decide +kernel
theorem dX11_mixes_84 : decode cX11_mixes 84 = .ok (.aload_n 0, 1) := by decide +kernel
theorem dX11_mixes_85 : decode cX11_mixes 85 = .ok (.getfield 153, 3) := by decide +kernel
theorem dX11_mixes_88 : decode cX11_mixes 88 = .ok (.invokevirtual 76, 3) := by decide +kernel
theorem dX11_mixes_91 : decode cX11_mixes 91 = .ok (.return_, 1) := by decide +kernel
theorem dX11_mixes_92 : decode cX11_mixes 92 = .ok (.iload 4, 2) := by decide +kernel
theorem dX11_mixes_94 : decode cX11_mixes 94 = .ok (.iload_n 1, 1) := by decide +kernel
theorem dX11_mixes_95 : decode cX11_mixes 95 = .ok (.if_icmp .eq 83, 3) := by decide +kernel
theorem dX11_mixes_98 : decode cX11_mixes 98 = .ok (.aload_n 0, 1) := by decide +kernel
theorem dX11_mixes_99 : decode cX11_mixes 99 = .ok (.getfield 7, 3) := by decide +kernel
theorem dX11_mixes_102 : decode cX11_mixes 102 = .ok (.bipush 32, 2) := by decide +kernel
theorem dX11_mixes_104 : decode cX11_mixes 104 = .ok (.iload_n 1, 1) := by decide +kernel
theorem dX11_mixes_105 : decode cX11_mixes 105 = .ok (.iadd, 1) := by decide +kernel
theorem dX11_mixes_106 : decode cX11_mixes 106 = .ok (.iaload, 1) := by decide +kernel
theorem dX11_mixes_107 : decode cX11_mixes 107 = .ok (.istore 7, 2) := by decide +kernel
theorem dX11_mixes_109 : decode cX11_mixes 109 = .ok (.iconst 0, 1) := by decide +kernel
theorem dX11_mixes_110 : decode cX11_mixes 110 = .ok (.istore 8, 2) := by decide +kernel
theorem dX11_mixes_112 : decode cX11_mixes 112 = .ok (.iload 8, 2) := by decide +kernel
theorem dX11_mixes_114 : decode cX11_mixes 114 = .ok (.iload 7, 2) := by decide +kernel
theorem dX11_mixes_116 : decode cX11_mixes 116 = .ok (.if_icmp .ge 32, 3) := by decide +kernel
theorem dX11_mixes_119 : decode cX11_mixes 119 = .ok (.aload_n 0, 1) := by decide +kernel
theorem dX11_mixes_120 : decode cX11_mixes 120 = .ok (.getfield 35, 3) := by decide +kernel
theorem dX11_mixes_123 : decode cX11_mixes 123 = .ok (.iload 8, 2) := by decide +kernel
theorem dX11_mixes_125 : decode cX11_mixes 125 = .ok (.aload_n 0, 1) := by decide +kernel
theorem dX11_mixes_126 : decode cX11_mixes 126 = .ok (.getfield 7, 3) := by decide +kernel
theorem dX11_mixes_129 : decode cX11_mixes 129 = .ok (.sipush 256, 3) := by decide +kernel
theorem dX11_mixes_132 : decode cX11_mixes 132 = .ok (.bipush 8, 2) := by decide +kernel
theorem dX11_mixes_134 : decode cX11_mixes 134 = .ok (.iload_n 1, 1) := by decide +kernel
theorem dX11_mixes_135 : decode cX11_mixes 135 = .ok (.imul, 1) := by decide +kernel
theorem dX11_mixes_136 : decode cX11_mixes 136 = .ok (.iadd, 1) := by decide +kernel
theorem dX11_mixes_137 : decode cX11_mixes 137 = .ok (.iload 8, 2) := by decide +kernel
theorem dX11_mixes_139 : decode cX11_mixes 139 = .ok (.iadd, 1) := by decide +kernel
theorem dX11_mixes_140 : decode cX11_mixes 140 = .ok (.iaload, 1) := by decide +kernel
theorem dX11_mixes_141 : decode cX11_mixes 141 = .ok (.iastore, 1) := by decide +kernel
theorem dX11_mixes_142 : decode cX11_mixes 142 = .ok (.iinc 8 1, 3) := by decide +kernel
theorem dX11_mixes_145 : decode cX11_mixes 145 = .ok (.goto (-33), 3) := by decide +kernel
theorem dX11_mixes_148 : decode cX11_mixes 148 = .ok (.aload_n 0, 1) := by decide +kernel
theorem dX11_mixes_149 : decode cX11_mixes 149 = .ok (.iconst 0, 1) := by decide +kernel
theorem dX11_mixes_150 : decode cX11_mixes 150 = .ok (.putfield 121, 3) := by decide +kernel
theorem dX11_mixes_153 : decode cX11_mixes 153 = .ok (.aload_n 0, 1) := by decide +kernel
theorem dX11_mixes_154 : decode cX11_mixes 154 = .ok (.iload 7, 2) := by decide +kernel
theorem dX11_mixes_156 : decode cX11_mixes 156 = .ok (.aload_n 0, 1) := by decide +kernel
theorem dX11_mixes_157 : decode cX11_mixes 157 = .ok (.getfield 153, 3) := by decide +kernel
theorem dX11_mixes_160 : decode cX11_mixes 160 = .ok (.invokevirtual 128, 3) := by decide +kernel
theorem dX11_mixes_163 : decode cX11_mixes 163 = .ok (.aload_n 0, 1) := by decide +kernel
theorem dX11_mixes_164 : decode cX11_mixes 164 = .ok (.iload_n 1, 1) := by decide +kernel
theorem dX11_mixes_165 : decode cX11_mixes 165 = .ok (.iload 4, 2) := by decide +kernel
theorem dX11_mixes_167 : decode cX11_mixes 167 = .ok (.bipush 8, 2) := by decide +kernel
theorem dX11_mixes_169 : decode cX11_mixes 169 = .ok (.iconst 0, 1) := by decide +kernel
theorem dX11_mixes_170 : decode cX11_mixes 170 = .ok (.iconst 0, 1) := by decide +kernel
theorem dX11_mixes_171 : decode cX11_mixes 171 = .ok (.aload_n 0, 1) := by decide +kernel
theorem dX11_mixes_172 : decode cX11_mixes 172 = .ok (.getfield 121, 3) := by decide +kernel
theorem dX11_mixes_175 : decode cX11_mixes 175 = .ok (.invokevirtual 76, 3) := by decide +kernel
theorem dX11_mixes_178 : decode cX11_mixes 178 = .ok (.iconst 0, 1) := by decide +kernel
theorem dX11_mixes_179 : decode cX11_mixes 179 = .ok (.istore 6, 2) := by decide +kernel
theorem dX11_mixes_181 : decode cX11_mixes 181 = .ok (.iload 6, 2) := by decide +kernel
theorem dX11_mixes_183 : decode cX11_mixes 183 = .ok (.aload_n 0, 1) := by decide +kernel
theorem dX11_mixes_184 : decode cX11_mixes 184 = .ok (.getfield 153, 3) := by decide +kernel
theorem dX11_mixes_187 : decode cX11_mixes 187 = .ok (.if_icmp .ge 21, 3) := by decide +kernel
theorem dX11_mixes_190 : decode cX11_mixes 190 = .ok (.aload_n 0, 1) := by decide +kernel
theorem dX11_mixes_191 : decode cX11_mixes 191 = .ok (.iload_n 1, 1) := by decide +kernel
theorem dX11_mixes_192 : decode cX11_mixes 192 = .ok (.aload_n 0, 1) := by decide +kernel
theorem dX11_mixes_193 : decode cX11_mixes 193 = .ok (.getfield 38, 3) := by decide +kernel
theorem dX11_mixes_196 : decode cX11_mixes 196 = .ok (.iload 6, 2) := by decide +kernel
theorem dX11_mixes_198 : decode cX11_mixes 198 = .ok (.iaload, 1) := by decide +kernel
theorem dX11_mixes_199 : decode cX11_mixes 199 = .ok (.invokevirtual 107, 3) := by decide +kernel
theorem dX11_mixes_202 : decode cX11_mixes 202 = .ok (.iinc 6 1, 3) := by decide +kernel
theorem dX11_mixes_205 : decode cX11_mixes 205 = .ok (.goto (-24), 3) := by decide +kernel
theorem dX11_mixes_208 : decode cX11_mixes 208 = .ok (.return_, 1) := by decide +kernel
theorem dX11_tells_0 : decode cX11_tells 0 = .ok (.aload_n 0, 1) := by decide +kernel
theorem dX11_tells_1 : decode cX11_tells 1 = .ok (.iload_n 1, 1) := by decide +kernel
theorem dX11_tells_2 : decode cX11_tells 2 = .ok (.iload_n 2, 1) := by decide +kernel
theorem dX11_tells_3 : decode cX11_tells 3 = .ok (.invokevirtual 89, 3) := by decide +kernel
theorem dX11_tells_6 : decode cX11_tells 6 = .ok (.ifCond .ne 4, 3) := by decide +kernel
theorem dX11_tells_9 : decode cX11_tells 9 = .ok (.return_, 1) := by decide +kernel
theorem dX11_tells_10 : decode cX11_tells 10 = .ok (.bipush 24, 2) := by decide +kernel
theorem dX11_tells_12 : decode cX11_tells 12 = .ok (.iload_n 1, 1) := by decide +kernel
theorem dX11_tells_13 : decode cX11_tells 13 = .ok (.imul, 1) := by decide +kernel
theorem dX11_tells_14 : decode cX11_tells 14 = .ok (.iload 4, 2) := by decide +kernel
theorem dX11_tells_16 : decode cX11_tells 16 = .ok (.iadd, 1) := by decide +kernel
theorem dX11_tells_17 : decode cX11_tells 17 = .ok (.istore 6, 2) := by decide +kernel
theorem dX11_tells_19 : decode cX11_tells 19 = .ok (.iload_n 3, 1) := by decide +kernel
theorem dX11_tells_20 : decode cX11_tells 20 = .ok (.bipush 9, 2) := by decide +kernel
theorem dX11_tells_22 : decode cX11_tells 22 = .ok (.if_icmp .ne 57, 3) := by decide +kernel
theorem dX11_tells_25 : decode cX11_tells 25 = .ok (.aload_n 0, 1) := by decide +kernel
theorem dX11_tells_26 : decode cX11_tells 26 = .ok (.getfield 7, 3) := by decide +kernel
theorem dX11_tells_29 : decode cX11_tells 29 = .ok (.sipush 384, 3) := by decide +kernel
theorem dX11_tells_32 : decode cX11_tells 32 = .ok (.iload 6, 2) := by decide +kernel
theorem dX11_tells_34 : decode cX11_tells 34 = .ok (.iadd, 1) := by decide +kernel
theorem dX11_tells_35 : decode cX11_tells 35 = .ok (.iaload, 1) := by decide +kernel
theorem dX11_tells_36 : decode cX11_tells 36 = .ok (.ifCond .ge 23, 3) := by decide +kernel
theorem dX11_tells_39 : decode cX11_tells 39 = .ok (.aload_n 0, 1) := by decide +kernel
theorem dX11_tells_40 : decode cX11_tells 40 = .ok (.iload_n 1, 1) := by decide +kernel
theorem dX11_tells_41 : decode cX11_tells 41 = .ok (.iload_n 2, 1) := by decide +kernel
theorem dX11_tells_42 : decode cX11_tells 42 = .ok (.iconst 0, 1) := by decide +kernel
theorem dX11_tells_43 : decode cX11_tells 43 = .ok (.invokevirtual 142, 3) := by decide +kernel
theorem dX11_tells_46 : decode cX11_tells 46 = .ok (.aload_n 0, 1) := by decide +kernel
theorem dX11_tells_47 : decode cX11_tells 47 = .ok (.iload_n 1, 1) := by decide +kernel
theorem dX11_tells_48 : decode cX11_tells 48 = .ok (.iload 4, 2) := by decide +kernel
theorem dX11_tells_50 : decode cX11_tells 50 = .ok (.iload_n 2, 1) := by decide +kernel
theorem dX11_tells_51 : decode cX11_tells 51 = .ok (.iload 5, 2) := by decide +kernel
theorem dX11_tells_53 : decode cX11_tells 53 = .ok (.invokevirtual 134, 3) := by decide +kernel
theorem dX11_tells_56 : decode cX11_tells 56 = .ok (.goto 275, 3) := by decide +kernel
theorem dX11_tells_59 : decode cX11_tells 59 = .ok (.aload_n 0, 1) := by decide +kernel
theorem dX11_tells_60 : decode cX11_tells 60 = .ok (.iload_n 1, 1) := by decide +kernel
theorem dX11_tells_61 : decode cX11_tells 61 = .ok (.iload_n 2, 1) := by decide +kernel
theorem dX11_tells_62 : decode cX11_tells 62 = .ok (.iconst 1, 1) := by decide +kernel
theorem dX11_tells_63 : decode cX11_tells 63 = .ok (.invokevirtual 142, 3) := by decide +kernel
theorem dX11_tells_66 : decode cX11_tells 66 = .ok (.aload_n 0, 1) := by decide +kernel
theorem dX11_tells_67 : decode cX11_tells 67 = .ok (.iload_n 1, 1) := by decide +kernel
theorem dX11_tells_68 : decode cX11_tells 68 = .ok (.iload_n 2, 1) := by decide +kernel
theorem dX11_tells_69 : decode cX11_tells 69 = .ok (.bipush 11, 2) := by decide +kernel
theorem dX11_tells_71 : decode cX11_tells 71 = .ok (.iconst 0, 1) := by decide +kernel
theorem dX11_tells_72 : decode cX11_tells 72 = .ok (.iconst 0, 1) := by decide +kernel
theorem dX11_tells_73 : decode cX11_tells 73 = .ok (.invokevirtual 100, 3) := by decide +kernel
theorem dX11_tells_76 : decode cX11_tells 76 = .ok (.goto 255, 3) := by decide +kernel
theorem dX11_tells_79 : decode cX11_tells 79 = .ok (.iload_n 3, 1) := by decide +kernel
theorem dX11_tells_80 : decode cX11_tells 80 = .ok (.bipush 10, 2) := by decide +kernel
theorem dX11_tells_82 : decode cX11_tells 82 = .ok (.if_icmp .ne 190, 3) := by decide +kernel
theorem dX11_tells_85 : decode cX11_tells 85 = .ok (.aload_n 0, 1) := by decide +kernel
theorem dX11_tells_86 : decode cX11_tells 86 = .ok (.getfield 7, 3) := by decide +kernel
theorem dX11_tells_89 : decode cX11_tells 89 = .ok (.sipush 384, 3) := by decide +kernel
theorem dX11_tells_92 : decode cX11_tells 92 = .ok (.iload 6, 2) := by decide +kernel
theorem dX11_tells_94 : decode cX11_tells 94 = .ok (.iadd, 1) := by decide +kernel
theorem dX11_tells_95 : decode cX11_tells 95 = .ok (.iaload, 1) := by decide +kernel
theorem dX11_tells_96 : decode cX11_tells 96 = .ok (.ifCond .ge 235, 3) := by decide +kernel
theorem dX11_tells_99 : decode cX11_tells 99 = .ok (.aload_n 0, 1) := by decide +kernel
theorem dX11_tells_100 : decode cX11_tells 100 = .ok (.getfield 7, 3) := by decide +kernel
theorem dX11_tells_103 : decode cX11_tells 103 = .ok (.sipush 768, 3) := by decide +kernel
theorem dX11_tells_106 : decode cX11_tells 106 = .ok (.iload 6, 2) := by decide +kernel
theorem dX11_tells_108 : decode cX11_tells 108 = .ok (.iadd, 1) := by decide +kernel
theorem dX11_tells_109 : decode cX11_tells 109 = .ok (.iaload, 1) := by decide +kernel
theorem dX11_tells_110 : decode cX11_tells 110 = .ok (.ifCond .ne 51, 3) := by decide +kernel
theorem dX11_tells_113 : decode cX11_tells 113 = .ok (.aload_n 0, 1) := by decide +kernel
theorem dX11_tells_114 : decode cX11_tells 114 = .ok (.getfield 7, 3) := by decide +kernel
theorem dX11_tells_117 : decode cX11_tells 117 = .ok (.sipush 768, 3) := by decide +kernel
theorem dX11_tells_120 : decode cX11_tells 120 = .ok (.iload 6, 2) := by decide +kernel
theorem dX11_tells_122 : decode cX11_tells 122 = .ok (.iadd, 1) := by decide +kernel
theorem dX11_tells_123 : decode cX11_tells 123 = .ok (.iconst 1, 1) := by decide +kernel
theorem dX11_tells_124 : decode cX11_tells 124 = .ok (.iastore, 1) := by decide +kernel
theorem dX11_tells_125 : decode cX11_tells 125 = .ok (.aload_n 0, 1) := by decide +kernel
theorem dX11_tells_126 : decode cX11_tells 126 = .ok (.getfield 7, 3) := by decide +kernel
theorem dX11_tells_129 : decode cX11_tells 129 = .ok (.sipush 1152, 3) := by decide +kernel
theorem dX11_tells_132 : decode cX11_tells 132 = .ok (.iload 6, 2) := by decide +kernel
theorem dX11_tells_134 : decode cX11_tells 134 = .ok (.iadd, 1) := by decide +kernel
theorem dX11_tells_135 : decode cX11_tells 135 = .ok (.aload_n 0, 1) := by decide +kernel
theorem dX11_tells_136 : decode cX11_tells 136 = .ok (.getfield 7, 3) := by decide +kernel
theorem dX11_tells_139 : decode cX11_tells 139 = .ok (.sipush 10509, 3) := by decide +kernel
theorem dX11_tells_142 : decode cX11_tells 142 = .ok (.iaload, 1) := by decide +kernel
theorem dX11_tells_143 : decode cX11_tells 143 = .ok (.aload_n 0, 1) := by decide +kernel
theorem dX11_tells_144 : decode cX11_tells 144 = .ok (.getfield 26, 3) := by decide +kernel
theorem dX11_tells_147 : decode cX11_tells 147 = .ok (.iadd, 1) := by decide +kernel
theorem dX11_tells_148 : decode cX11_tells 148 = .ok (.iastore, 1) := by decide +kernel
theorem dX11_tells_149 : decode cX11_tells 149 = .ok (.aload_n 0, 1) := by decide +kernel
theorem dX11_tells_150 : decode cX11_tells 150 = .ok (.getfield 7, 3) := by decide +kernel
theorem dX11_tells_153 : decode cX11_tells 153 = .ok (.sipush 1536, 3) := by decide +kernel
theorem dX11_tells_156 : decode cX11_tells 156 = .ok (.iload 6, 2) := by decide +kernel
theorem dX11_tells_158 : decode cX11_tells 158 = .ok (.iadd, 1) := by decide +kernel
theorem dX11_tells_159 : decode cX11_tells 159 = .ok (.iconst 0, 1) := by decide +kernel
theorem dX11_tells_160 : decode cX11_tells 160 = .ok (.iastore, 1) := by decide +kernel
theorem dX11_tells_161 : decode cX11_tells 161 = .ok (.iconst 0, 1) := by decide +kernel
theorem dX11_tells_162 : decode cX11_tells 162 = .ok (.istore 7, 2) := by decide +kernel
theorem dX11_tells_164 : decode cX11_tells 164 = .ok (.iconst 0, 1) := by decide +kernel
theorem dX11_tells_165 : decode cX11_tells 165 = .ok (.istore 8, 2) := by decide +kernel
theorem dX11_tells_167 : decode cX11_tells 167 = .ok (.iload 8, 2) := by decide +kernel
theorem dX11_tells_169 : decode cX11_tells 169 = .ok (.aload_n 0, 1) := by decide +kernel
theorem dX11_tells_170 : decode cX11_tells 170 = .ok (.getfield 7, 3) := by decide +kernel
theorem dX11_tells_173 : decode cX11_tells 173 = .ok (.sipush 1536, 3) := by decide +kernel
theorem dX11_tells_176 : decode cX11_tells 176 = .ok (.iload 6, 2) := by decide +kernel
theorem dX11_tells_178 : decode cX11_tells 178 = .ok (.iadd, 1) := by decide +kernel
theorem dX11_tells_179 : decode cX11_tells 179 = .ok (.iaload, 1) := by decide +kernel
theorem dX11_tells_180 : decode cX11_tells 180 = .ok (.if_icmp .ge 42, 3) := by decide +kernel
theorem dX11_tells_183 : decode cX11_tells 183 = .ok (.iload 7, 2) := by decide +kernel
theorem dX11_tells_185 : decode cX11_tells 185 = .ok (.ifCond .ne 24, 3) := by decide +kernel
theorem dX11_tells_188 : decode cX11_tells 188 = .ok (.aload_n 0, 1) := by decide +kernel
theorem dX11_tells_189 : decode cX11_tells 189 = .ok (.getfield 7, 3) := by decide +kernel
theorem dX11_tells_192 : decode cX11_tells 192 = .ok (.sipush 1920, 3) := by decide +kernel
theorem dX11_tells_195 : decode cX11_tells 195 = .ok (.bipush 8, 2) := by decide +kernel
theorem dX11_tells_197 : decode cX11_tells 197 = .ok (.iload 6, 2) := by decide +kernel
theorem dX11_tells_199 : decode cX11_tells 199 = .ok (.imul, 1) := by decide +kernel
theorem dX11_tells_200 : decode cX11_tells 200 = .ok (.iadd, 1) := by decide +kernel
theorem dX11_tells_201 : decode cX11_tells 201 = .ok (.iload 8, 2) := by decide +kernel
theorem dX11_tells_203 : decode cX11_tells 203 = .ok (.iadd, 1) := by decide +kernel
theorem dX11_tells_204 : decode cX11_tells 204 = .ok (.iaload, 1) := by decide +kernel
theorem dX11_tells_205 : decode cX11_tells 205 = .ok (.iload_n 2, 1) := by decide +kernel
theorem dX11_tells_206 : decode cX11_tells 206 = .ok (.if_icmp .ne 7, 3) := by decide +kernel
theorem dX11_tells_209 : decode cX11_tells 209 = .ok (.iconst 1, 1) := by decide +kernel
theorem dX11_tells_210 : decode cX11_tells 210 = .ok (.goto 4, 3) := by decide +kernel
theorem dX11_tells_213 : decode cX11_tells 213 = .ok (.iconst 0, 1) := by decide +kernel
theorem dX11_tells_214 : decode cX11_tells 214 = .ok (.istore 7, 2) := by decide +kernel
theorem dX11_tells_216 : decode cX11_tells 216 = .ok (.iinc 8 1, 3) := by decide +kernel
theorem dX11_tells_219 : decode cX11_tells 219 = .ok (.goto (-52), 3) := by decide +kernel
theorem dX11_tells_222 : decode cX11_tells 222 = .ok (.iload 7, 2) := by decide +kernel
theorem dX11_tells_224 : decode cX11_tells 224 = .ok (.ifCond .ne 45, 3) := by decide +kernel
theorem dX11_tells_227 : decode cX11_tells 227 = .ok (.aload_n 0, 1) := by decide +kernel
theorem dX11_tells_228 : decode cX11_tells 228 = .ok (.getfield 7, 3) := by decide +kernel
theorem dX11_tells_231 : decode cX11_tells 231 = .ok (.sipush 1920, 3) := by decide +kernel
theorem dX11_tells_234 : decode cX11_tells 234 = .ok (.bipush 8, 2) := by decide +kernel
theorem dX11_tells_236 : decode cX11_tells 236 = .ok (.iload 6, 2) := by decide +kernel
theorem dX11_tells_238 : decode cX11_tells 238 = .ok (.imul, 1) := by decide +kernel
theorem dX11_tells_239 : decode cX11_tells 239 = .ok (.iadd, 1) := by decide +kernel
theorem dX11_tells_240 : decode cX11_tells 240 = .ok (.aload_n 0, 1) := by decide +kernel
theorem dX11_tells_241 : decode cX11_tells 241 = .ok (.getfield 7, 3) := by decide +kernel
theorem dX11_tells_244 : decode cX11_tells 244 = .ok (.sipush 1536, 3) := by decide +kernel
theorem dX11_tells_247 : decode cX11_tells 247 = .ok (.iload 6, 2) := by decide +kernel
theorem dX11_tells_249 : decode cX11_tells 249 = .ok (.iadd, 1) := by decide +kernel
theorem dX11_tells_250 : decode cX11_tells 250 = .ok (.iaload, 1) := by decide +kernel
theorem dX11_tells_251 : decode cX11_tells 251 = .ok (.iadd, 1) := by decide +kernel
theorem dX11_tells_252 : decode cX11_tells 252 = .ok (.iload_n 2, 1) := by decide +kernel
theorem dX11_tells_253 : decode cX11_tells 253 = .ok (.iastore, 1) := by decide +kernel
theorem dX11_tells_254 : decode cX11_tells 254 = .ok (.aload_n 0, 1) := by decide +kernel
theorem dX11_tells_255 : decode cX11_tells 255 = .ok (.getfield 7, 3) := by decide +kernel
theorem dX11_tells_258 : decode cX11_tells 258 = .ok (.sipush 1536, 3) := by decide +kernel
theorem dX11_tells_261 : decode cX11_tells 261 = .ok (.iload 6, 2) := by decide +kernel
theorem dX11_tells_263 : decode cX11_tells 263 = .ok (.iadd, 1) := by decide +kernel
theorem dX11_tells_264 : decode cX11_tells 264 = .ok (.dup2, 1) := by decide +kernel
theorem dX11_tells_265 : decode cX11_tells 265 = .ok (.iaload, 1) := by decide +kernel
theorem dX11_tells_266 : decode cX11_tells 266 = .ok (.iconst 1, 1) := by decide +kernel
theorem dX11_tells_267 : decode cX11_tells 267 = .ok (.iadd, 1) := by decide +kernel
theorem dX11_tells_268 : decode cX11_tells 268 = .ok (.iastore, 1) := by decide +kernel
theorem dX11_tells_269 : decode cX11_tells 269 = .ok (.goto 62, 3) := by decide +kernel
theorem dX11_tells_272 : decode cX11_tells 272 = .ok (.iload 5, 2) := by decide +kernel
theorem dX11_tells_274 : decode cX11_tells 274 = .ok (.ifCond .ne 13, 3) := by decide +kernel
theorem dX11_tells_277 : decode cX11_tells 277 = .ok (.aload_n 0, 1) := by decide +kernel
theorem dX11_tells_278 : decode cX11_tells 278 = .ok (.iload_n 1, 1) := by decide +kernel
theorem dX11_tells_279 : decode cX11_tells 279 = .ok (.iload_n 2, 1) := by decide +kernel
theorem dX11_tells_280 : decode cX11_tells 280 = .ok (.iconst 1, 1) := by decide +kernel
theorem dX11_tells_281 : decode cX11_tells 281 = .ok (.invokevirtual 142, 3) := by decide +kernel
theorem dX11_tells_284 : decode cX11_tells 284 = .ok (.goto 47, 3) := by decide +kernel
theorem dX11_tells_287 : decode cX11_tells 287 = .ok (.aload_n 0, 1) := by decide +kernel
theorem dX11_tells_288 : decode cX11_tells 288 = .ok (.iload_n 1, 1) := by decide +kernel
theorem dX11_tells_289 : decode cX11_tells 289 = .ok (.iload_n 2, 1) := by decide +kernel
theorem dX11_tells_290 : decode cX11_tells 290 = .ok (.iconst 0, 1) := by decide +kernel
theorem dX11_tells_291 : decode cX11_tells 291 = .ok (.invokevirtual 142, 3) := by decide +kernel
theorem dX11_tells_294 : decode cX11_tells 294 = .ok (.aload_n 0, 1) := by decide +kernel
theorem dX11_tells_295 : decode cX11_tells 295 = .ok (.getfield 7, 3) := by decide +kernel
theorem dX11_tells_298 : decode cX11_tells 298 = .ok (.sipush 384, 3) := by decide +kernel
theorem dX11_tells_301 : decode cX11_tells 301 = .ok (.iload 6, 2) := by decide +kernel
theorem dX11_tells_303 : decode cX11_tells 303 = .ok (.iadd, 1) := by decide +kernel
theorem dX11_tells_304 : decode cX11_tells 304 = .ok (.iaload, 1) := by decide +kernel
theorem dX11_tells_305 : decode cX11_tells 305 = .ok (.ifCond .lt 26, 3) := by decide +kernel
theorem dX11_tells_308 : decode cX11_tells 308 = .ok (.aload_n 0, 1) := by decide +kernel
theorem dX11_tells_309 : decode cX11_tells 309 = .ok (.iload_n 1, 1) := by decide +kernel
theorem dX11_tells_310 : decode cX11_tells 310 = .ok (.iload_n 2, 1) := by decide +kernel
theorem dX11_tells_311 : decode cX11_tells 311 = .ok (.bipush 9, 2) := by decide +kernel
theorem dX11_tells_313 : decode cX11_tells 313 = .ok (.iload 4, 2) := by decide +kernel
theorem dX11_tells_315 : decode cX11_tells 315 = .ok (.aload_n 0, 1) := by decide +kernel
theorem dX11_tells_316 : decode cX11_tells 316 = .ok (.getfield 7, 3) := by decide +kernel
theorem dX11_tells_319 : decode cX11_tells 319 = .ok (.sipush 384, 3) := by decide +kernel
theorem dX11_tells_322 : decode cX11_tells 322 = .ok (.iload 6, 2) := by decide +kernel
theorem dX11_tells_324 : decode cX11_tells 324 = .ok (.iadd, 1) := by decide +kernel
theorem dX11_tells_325 : decode cX11_tells 325 = .ok (.iaload, 1) := by decide +kernel
theorem dX11_tells_326 : decode cX11_tells 326 = .ok (.iconst 1, 1) := by decide +kernel
theorem dX11_tells_327 : decode cX11_tells 327 = .ok (.iadd, 1) := by decide +kernel
theorem dX11_tells_328 : decode cX11_tells 328 = .ok (.invokevirtual 100, 3) := by decide +kernel
theorem dX11_tells_331 : decode cX11_tells 331 = .ok (.return_, 1) := by decide +kernel
theorem dX11_view_0 : decode cX11_view 0 = .ok (.aload_n 0, 1) := by decide +kernel
theorem dX11_view_1 : decode cX11_view 1 = .ok (.iload_n 1, 1) := by decide +kernel
theorem dX11_view_2 : decode cX11_view 2 = .ok (.invokevirtual 110, 3) := by decide +kernel
theorem dX11_view_5 : decode cX11_view 5 = .ok (.ifCond .ne 5, 3) := by decide +kernel
theorem dX11_view_8 : decode cX11_view 8 = .ok (.iconst (-1), 1) := by decide +kernel
theorem dX11_view_9 : decode cX11_view 9 = .ok (.ireturn, 1) := by decide +kernel
theorem dX11_view_10 : decode cX11_view 10 = .ok (.iload_n 2, 1) := by decide +kernel
theorem dX11_view_11 : decode cX11_view 11 = .ok (.i2l, 1) := by decide +kernel
theorem dX11_view_12 : decode cX11_view 12 = .ok (.lconst 0, 1) := by decide +kernel
theorem dX11_view_13 : decode cX11_view 13 = .ok (.lconst 1, 1) := by decide +kernel
theorem dX11_view_14 : decode cX11_view 14 = .ok (.invokestatic 51, 3) := by decide +kernel
theorem dX11_view_17 : decode cX11_view 17 = .ok (.ifCond .ne 6, 3) := by decide +kernel
theorem dX11_view_20 : decode cX11_view 20 = .ok (.bipush (-2), 2) := by decide +kernel
theorem dX11_view_22 : decode cX11_view 22 = .ok (.ireturn, 1) := by decide +kernel
theorem dX11_view_23 : decode cX11_view 23 = .ok (.iload_n 2, 1) := by decide +kernel
theorem dX11_view_24 : decode cX11_view 24 = .ok (.ifCond .ne 15, 3) := by decide +kernel
theorem dX11_view_27 : decode cX11_view 27 = .ok (.aload_n 0, 1) := by decide +kernel
theorem dX11_view_28 : decode cX11_view 28 = .ok (.getfield 7, 3) := by decide +kernel
theorem dX11_view_31 : decode cX11_view 31 = .ok (.bipush 16, 2) := by decide +kernel
theorem dX11_view_33 : decode cX11_view 33 = .ok (.iload_n 1, 1) := by decide +kernel
theorem dX11_view_34 : decode cX11_view 34 = .ok (.iadd, 1) := by decide +kernel
theorem dX11_view_35 : decode cX11_view 35 = .ok (.iaload, 1) := by decide +kernel
theorem dX11_view_36 : decode cX11_view 36 = .ok (.goto 12, 3) := by decide +kernel
theorem dX11_view_39 : decode cX11_view 39 = .ok (.aload_n 0, 1) := by decide +kernel
theorem dX11_view_40 : decode cX11_view 40 = .ok (.getfield 7, 3) := by decide +kernel
theorem dX11_view_43 : decode cX11_view 43 = .ok (.bipush 32, 2) := by decide +kernel
theorem dX11_view_45 : decode cX11_view 45 = .ok (.iload_n 1, 1) := by decide +kernel
theorem dX11_view_46 : decode cX11_view 46 = .ok (.iadd, 1) := by decide +kernel
theorem dX11_view_47 : decode cX11_view 47 = .ok (.iaload, 1) := by decide +kernel
theorem dX11_view_48 : decode cX11_view 48 = .ok (.istore 4, 2) := by decide +kernel
theorem dX11_view_50 : decode cX11_view 50 = .ok (.iload_n 3, 1) := by decide +kernel
theorem dX11_view_51 : decode cX11_view 51 = .ok (.iconst (-1), 1) := by decide +kernel
theorem dX11_view_52 : decode cX11_view 52 = .ok (.if_icmp .ne 6, 3) := by decide +kernel
theorem dX11_view_55 : decode cX11_view 55 = .ok (.iload 4, 2) := by decide +kernel
theorem dX11_view_57 : decode cX11_view 57 = .ok (.ireturn, 1) := by decide +kernel
theorem dX11_view_58 : decode cX11_view 58 = .ok (.iload_n 3, 1) := by decide +kernel
theorem dX11_view_59 : decode cX11_view 59 = .ok (.i2l, 1) := by decide +kernel
theorem dX11_view_60 : decode cX11_view 60 = .ok (.lconst 0, 1) := by decide +kernel
theorem dX11_view_61 : decode cX11_view 61 = .ok (.iload 4, 2) := by decide +kernel
theorem dX11_view_63 : decode cX11_view 63 = .ok (.iconst 1, 1) := by decide +kernel
theorem dX11_view_64 : decode cX11_view 64 = .ok (.isub, 1) := by decide +kernel
theorem dX11_view_65 : decode cX11_view 65 = .ok (.i2l, 1) := by decide +kernel
theorem dX11_view_66 : decode cX11_view 66 = .ok (.invokestatic 51, 3) := by decide +kernel
theorem dX11_view_69 : decode cX11_view 69 = .ok (.ifCond .ne 6, 3) := by decide +kernel
theorem dX11_view_72 : decode cX11_view 72 = .ok (.bipush (-6), 2) := by decide +kernel
theorem dX11_view_74 : decode cX11_view 74 = .ok (.ireturn, 1) := by decide +kernel
theorem dX11_view_75 : decode cX11_view 75 = .ok (.iload_n 2, 1) := by decide +kernel
theorem dX11_view_76 : decode cX11_view 76 = .ok (.ifCond .ne 19, 3) := by decide +kernel
theorem dX11_view_79 : decode cX11_view 79 = .ok (.aload_n 0, 1) := by decide +kernel
theorem dX11_view_80 : decode cX11_view 80 = .ok (.getfield 7, 3) := by decide +kernel
theorem dX11_view_83 : decode cX11_view 83 = .ok (.bipush 96, 2) := by decide +kernel
theorem dX11_view_85 : decode cX11_view 85 = .ok (.iconst 5, 1) := by decide +kernel
theorem dX11_view_86 : decode cX11_view 86 = .ok (.iload_n 1, 1) := by decide +kernel
theorem dX11_view_87 : decode cX11_view 87 = .ok (.imul, 1) := by decide +kernel
theorem dX11_view_88 : decode cX11_view 88 = .ok (.iadd, 1) := by decide +kernel
theorem dX11_view_89 : decode cX11_view 89 = .ok (.iload_n 3, 1) := by decide +kernel
theorem dX11_view_90 : decode cX11_view 90 = .ok (.iadd, 1) := by decide +kernel
theorem dX11_view_91 : decode cX11_view 91 = .ok (.iaload, 1) := by decide +kernel
theorem dX11_view_92 : decode cX11_view 92 = .ok (.goto 18, 3) := by decide +kernel
theorem dX11_view_95 : decode cX11_view 95 = .ok (.aload_n 0, 1) := by decide +kernel
theorem dX11_view_96 : decode cX11_view 96 = .ok (.getfield 7, 3) := by decide +kernel
theorem dX11_view_99 : decode cX11_view 99 = .ok (.sipush 256, 3) := by decide +kernel
theorem dX11_view_102 : decode cX11_view 102 = .ok (.bipush 8, 2) := by decide +kernel
theorem dX11_view_104 : decode cX11_view 104 = .ok (.iload_n 1, 1) := by decide +kernel
theorem dX11_view_105 : decode cX11_view 105 = .ok (.imul, 1) := by decide +kernel
theorem dX11_view_106 : decode cX11_view 106 = .ok (.iadd, 1) := by decide +kernel
theorem dX11_view_107 : decode cX11_view 107 = .ok (.iload_n 3, 1) := by decide +kernel
theorem dX11_view_108 : decode cX11_view 108 = .ok (.iadd, 1) := by decide +kernel
theorem dX11_view_109 : decode cX11_view 109 = .ok (.iaload, 1) := by decide +kernel
theorem dX11_view_110 : decode cX11_view 110 = .ok (.ireturn, 1) := by decide +kernel
theorem dX11_how_0 : decode cX11_how 0 = .ok (.aload_n 0, 1) := by decide +kernel
theorem dX11_how_1 : decode cX11_how 1 = .ok (.iload_n 1, 1) := by decide +kernel
theorem dX11_how_2 : decode cX11_how 2 = .ok (.invokevirtual 110, 3) := by decide +kernel
theorem dX11_how_5 : decode cX11_how 5 = .ok (.ifCond .eq 11, 3) := by decide +kernel
theorem dX11_how_8 : decode cX11_how 8 = .ok (.aload_n 0, 1) := by decide +kernel
theorem dX11_how_9 : decode cX11_how 9 = .ok (.iload_n 2, 1) := by decide +kernel
theorem dX11_how_10 : decode cX11_how 10 = .ok (.invokevirtual 110, 3) := by decide +kernel
theorem dX11_how_13 : decode cX11_how 13 = .ok (.ifCond .ne 5, 3) := by decide +kernel
theorem dX11_how_16 : decode cX11_how 16 = .ok (.iconst (-1), 1) := by decide +kernel
theorem dX11_how_17 : decode cX11_how 17 = .ok (.ireturn, 1) := by decide +kernel
theorem dX11_how_18 : decode cX11_how 18 = .ok (.aload_n 0, 1) := by decide +kernel
theorem dX11_how_19 : decode cX11_how 19 = .ok (.iload_n 1, 1) := by decide +kernel
theorem dX11_how_20 : decode cX11_how 20 = .ok (.iload_n 2, 1) := by decide +kernel
theorem dX11_how_21 : decode cX11_how 21 = .ok (.invokevirtual 79, 3) := by decide +kernel
theorem dX11_how_24 : decode cX11_how 24 = .ok (.istore_n 3, 1) := by decide +kernel
theorem dX11_how_25 : decode cX11_how 25 = .ok (.iload_n 3, 1) := by decide +kernel
theorem dX11_how_26 : decode cX11_how 26 = .ok (.ifCond .lt 22, 3) := by decide +kernel
theorem dX11_how_29 : decode cX11_how 29 = .ok (.iconst 1, 1) := by decide +kernel
theorem dX11_how_30 : decode cX11_how 30 = .ok (.aload_n 0, 1) := by decide +kernel
theorem dX11_how_31 : decode cX11_how 31 = .ok (.getfield 7, 3) := by decide +kernel
theorem dX11_how_34 : decode cX11_how 34 = .ok (.sipush 176, 3) := by decide +kernel
theorem dX11_how_37 : decode cX11_how 37 = .ok (.iconst 5, 1) := by decide +kernel
theorem dX11_how_38 : decode cX11_how 38 = .ok (.iload_n 1, 1) := by decide +kernel
theorem dX11_how_39 : decode cX11_how 39 = .ok (.imul, 1) := by decide +kernel
theorem dX11_how_40 : decode cX11_how 40 = .ok (.iadd, 1) := by decide +kernel
theorem dX11_how_41 : decode cX11_how 41 = .ok (.iload_n 3, 1) := by decide +kernel
theorem dX11_how_42 : decode cX11_how 42 = .ok (.iadd, 1) := by decide +kernel
theorem dX11_how_43 : decode cX11_how 43 = .ok (.iaload, 1) := by decide +kernel
theorem dX11_how_44 : decode cX11_how 44 = .ok (.iadd, 1) := by decide +kernel
theorem dX11_how_45 : decode cX11_how 45 = .ok (.goto 17, 3) := by decide +kernel
theorem dX11_how_48 : decode cX11_how 48 = .ok (.aload_n 0, 1) := by decide +kernel
theorem dX11_how_49 : decode cX11_how 49 = .ok (.iload_n 1, 1) := by decide +kernel
theorem dX11_how_50 : decode cX11_how 50 = .ok (.iload_n 2, 1) := by decide +kernel
theorem dX11_how_51 : decode cX11_how 51 = .ok (.invokevirtual 82, 3) := by decide +kernel
theorem dX11_how_54 : decode cX11_how 54 = .ok (.ifCond .lt 7, 3) := by decide +kernel
theorem dX11_how_57 : decode cX11_how 57 = .ok (.iconst 3, 1) := by decide +kernel
theorem dX11_how_58 : decode cX11_how 58 = .ok (.goto 4, 3) := by decide +kernel
theorem dX11_how_61 : decode cX11_how 61 = .ok (.iconst 0, 1) := by decide +kernel
theorem dX11_how_62 : decode cX11_how 62 = .ok (.ireturn, 1) := by decide +kernel
theorem dX11_heard_0 : decode cX11_heard 0 = .ok (.aload_n 0, 1) := by decide +kernel
theorem dX11_heard_1 : decode cX11_heard 1 = .ok (.iload_n 1, 1) := by decide +kernel
theorem dX11_heard_2 : decode cX11_heard 2 = .ok (.invokevirtual 110, 3) := by decide +kernel
theorem dX11_heard_5 : decode cX11_heard 5 = .ok (.ifCond .eq 29, 3) := by decide +kernel
theorem dX11_heard_8 : decode cX11_heard 8 = .ok (.aload_n 0, 1) := by decide +kernel
theorem dX11_heard_9 : decode cX11_heard 9 = .ok (.iload_n 2, 1) := by decide +kernel
theorem dX11_heard_10 : decode cX11_heard 10 = .ok (.invokevirtual 177, 3) := by decide +kernel
theorem dX11_heard_13 : decode cX11_heard 13 = .ok (.ifCond .eq 21, 3) := by decide +kernel
theorem dX11_heard_16 : decode cX11_heard 16 = .ok (.aload_n 0, 1) := by decide +kernel
theorem dX11_heard_17 : decode cX11_heard 17 = .ok (.getfield 7, 3) := by decide +kernel
theorem dX11_heard_20 : decode cX11_heard 20 = .ok (.sipush 384, 3) := by decide +kernel
theorem dX11_heard_23 : decode cX11_heard 23 = .ok (.bipush 24, 2) := by decide +kernel
theorem dX11_heard_25 : decode cX11_heard 25 = .ok (.iload_n 1, 1) := by decide +kernel
theorem dX11_heard_26 : decode cX11_heard 26 = .ok (.imul, 1) := by decide +kernel
theorem dX11_heard_27 : decode cX11_heard 27 = .ok (.iadd, 1) := by decide +kernel
theorem dX11_heard_28 : decode cX11_heard 28 = .ok (.iload_n 2, 1) := by decide +kernel
theorem dX11_heard_29 : decode cX11_heard 29 = .ok (.iadd, 1) := by decide +kernel
theorem dX11_heard_30 : decode cX11_heard 30 = .ok (.iaload, 1) := by decide +kernel
theorem dX11_heard_31 : decode cX11_heard 31 = .ok (.goto 4, 3) := by decide +kernel
theorem dX11_heard_34 : decode cX11_heard 34 = .ok (.iconst (-1), 1) := by decide +kernel
theorem dX11_heard_35 : decode cX11_heard 35 = .ok (.ireturn, 1) := by decide +kernel
theorem dX11_missed_0 : decode cX11_missed 0 = .ok (.aload_n 0, 1) := by decide +kernel
theorem dX11_missed_1 : decode cX11_missed 1 = .ok (.iload_n 1, 1) := by decide +kernel
theorem dX11_missed_2 : decode cX11_missed 2 = .ok (.invokevirtual 110, 3) := by decide +kernel
theorem dX11_missed_5 : decode cX11_missed 5 = .ok (.ifCond .eq 11, 3) := by decide +kernel
theorem dX11_missed_8 : decode cX11_missed 8 = .ok (.aload_n 0, 1) := by decide +kernel
theorem dX11_missed_9 : decode cX11_missed 9 = .ok (.iload_n 2, 1) := by decide +kernel
theorem dX11_missed_10 : decode cX11_missed 10 = .ok (.invokevirtual 177, 3) := by decide +kernel
theorem dX11_missed_13 : decode cX11_missed 13 = .ok (.ifCond .ne 5, 3) := by decide +kernel
theorem dX11_missed_16 : decode cX11_missed 16 = .ok (.iconst (-1), 1) := by decide +kernel
theorem dX11_missed_17 : decode cX11_missed 17 = .ok (.ireturn, 1) := by decide +kernel
theorem dX11_missed_18 : decode cX11_missed 18 = .ok (.aload_n 0, 1) := by decide +kernel
theorem dX11_missed_19 : decode cX11_missed 19 = .ok (.getfield 7, 3) := by decide +kernel
theorem dX11_missed_22 : decode cX11_missed 22 = .ok (.sipush 768, 3) := by decide +kernel
theorem dX11_missed_25 : decode cX11_missed 25 = .ok (.bipush 24, 2) := by decide +kernel
theorem dX11_missed_27 : decode cX11_missed 27 = .ok (.iload_n 1, 1) := by decide +kernel
theorem dX11_missed_28 : decode cX11_missed 28 = .ok (.imul, 1) := by decide +kernel
theorem dX11_missed_29 : decode cX11_missed 29 = .ok (.iadd, 1) := by decide +kernel
theorem dX11_missed_30 : decode cX11_missed 30 = .ok (.iload_n 2, 1) := by decide +kernel
theorem dX11_missed_31 : decode cX11_missed 31 = .ok (.iadd, 1) := by decide +kernel
theorem dX11_missed_32 : decode cX11_missed 32 = .ok (.iaload, 1) := by decide +kernel
theorem dX11_missed_33 : decode cX11_missed 33 = .ok (.iconst 1, 1) := by decide +kernel
theorem dX11_missed_34 : decode cX11_missed 34 = .ok (.if_icmp .ne 21, 3) := by decide +kernel
theorem dX11_missed_37 : decode cX11_missed 37 = .ok (.aload_n 0, 1) := by decide +kernel
theorem dX11_missed_38 : decode cX11_missed 38 = .ok (.getfield 7, 3) := by decide +kernel
theorem dX11_missed_41 : decode cX11_missed 41 = .ok (.sipush 1536, 3) := by decide +kernel
theorem dX11_missed_44 : decode cX11_missed 44 = .ok (.bipush 24, 2) := by decide +kernel
theorem dX11_missed_46 : decode cX11_missed 46 = .ok (.iload_n 1, 1) := by decide +kernel
theorem dX11_missed_47 : decode cX11_missed 47 = .ok (.imul, 1) := by decide +kernel
theorem dX11_missed_48 : decode cX11_missed 48 = .ok (.iadd, 1) := by decide +kernel
theorem dX11_missed_49 : decode cX11_missed 49 = .ok (.iload_n 2, 1) := by decide +kernel
theorem dX11_missed_50 : decode cX11_missed 50 = .ok (.iadd, 1) := by decide +kernel
theorem dX11_missed_51 : decode cX11_missed 51 = .ok (.iaload, 1) := by decide +kernel
theorem dX11_missed_52 : decode cX11_missed 52 = .ok (.goto 4, 3) := by decide +kernel
theorem dX11_missed_55 : decode cX11_missed 55 = .ok (.iconst 0, 1) := by decide +kernel
theorem dX11_missed_56 : decode cX11_missed 56 = .ok (.ireturn, 1) := by decide +kernel
theorem dX11_about_0 : decode cX11_about 0 = .ok (.aload_n 0, 1) := by decide +kernel
theorem dX11_about_1 : decode cX11_about 1 = .ok (.iload_n 1, 1) := by decide +kernel
theorem dX11_about_2 : decode cX11_about 2 = .ok (.invokevirtual 110, 3) := by decide +kernel
theorem dX11_about_5 : decode cX11_about 5 = .ok (.ifCond .ne 5, 3) := by decide +kernel
theorem dX11_about_8 : decode cX11_about 8 = .ok (.iconst (-1), 1) := by decide +kernel
theorem dX11_about_9 : decode cX11_about 9 = .ok (.ireturn, 1) := by decide +kernel
theorem dX11_about_10 : decode cX11_about 10 = .ok (.iconst 0, 1) := by decide +kernel
theorem dX11_about_11 : decode cX11_about 11 = .ok (.istore_n 3, 1) := by decide +kernel
theorem dX11_about_12 : decode cX11_about 12 = .ok (.iconst 0, 1) := by decide +kernel
theorem dX11_about_13 : decode cX11_about 13 = .ok (.istore 4, 2) := by decide +kernel
theorem dX11_about_15 : decode cX11_about 15 = .ok (.iconst 0, 1) := by decide +kernel
theorem dX11_about_16 : decode cX11_about 16 = .ok (.istore 5, 2) := by decide +kernel
theorem dX11_about_18 : decode cX11_about 18 = .ok (.iload 5, 2) := by decide +kernel
theorem dX11_about_20 : decode cX11_about 20 = .ok (.aload_n 0, 1) := by decide +kernel
theorem dX11_about_21 : decode cX11_about 21 = .ok (.getfield 7, 3) := by decide +kernel
theorem dX11_about_24 : decode cX11_about 24 = .ok (.sipush 10506, 3) := by decide +kernel
theorem dX11_about_27 : decode cX11_about 27 = .ok (.iaload, 1) := by decide +kernel
theorem dX11_about_28 : decode cX11_about 28 = .ok (.if_icmp .ge 57, 3) := by decide +kernel
theorem dX11_about_31 : decode cX11_about 31 = .ok (.iload_n 3, 1) := by decide +kernel
theorem dX11_about_32 : decode cX11_about 32 = .ok (.aload_n 0, 1) := by decide +kernel
theorem dX11_about_33 : decode cX11_about 33 = .ok (.getfield 7, 3) := by decide +kernel
theorem dX11_about_36 : decode cX11_about 36 = .ok (.sipush 384, 3) := by decide +kernel
theorem dX11_about_39 : decode cX11_about 39 = .ok (.bipush 24, 2) := by decide +kernel
theorem dX11_about_41 : decode cX11_about 41 = .ok (.iload_n 1, 1) := by decide +kernel
theorem dX11_about_42 : decode cX11_about 42 = .ok (.imul, 1) := by decide +kernel
theorem dX11_about_43 : decode cX11_about 43 = .ok (.iadd, 1) := by decide +kernel
theorem dX11_about_44 : decode cX11_about 44 = .ok (.iload 5, 2) := by decide +kernel
theorem dX11_about_46 : decode cX11_about 46 = .ok (.iadd, 1) := by decide +kernel
theorem dX11_about_47 : decode cX11_about 47 = .ok (.iaload, 1) := by decide +kernel
theorem dX11_about_48 : decode cX11_about 48 = .ok (.ifCond .lt 7, 3) := by decide +kernel
theorem dX11_about_51 : decode cX11_about 51 = .ok (.iconst 1, 1) := by decide +kernel
theorem dX11_about_52 : decode cX11_about 52 = .ok (.goto 4, 3) := by decide +kernel
theorem dX11_about_55 : decode cX11_about 55 = .ok (.iconst 0, 1) := by decide +kernel
theorem dX11_about_56 : decode cX11_about 56 = .ok (.iadd, 1) := by decide +kernel
theorem dX11_about_57 : decode cX11_about 57 = .ok (.istore_n 3, 1) := by decide +kernel
theorem dX11_about_58 : decode cX11_about 58 = .ok (.iload 4, 2) := by decide +kernel
theorem dX11_about_60 : decode cX11_about 60 = .ok (.aload_n 0, 1) := by decide +kernel
theorem dX11_about_61 : decode cX11_about 61 = .ok (.getfield 7, 3) := by decide +kernel
theorem dX11_about_64 : decode cX11_about 64 = .ok (.sipush 768, 3) := by decide +kernel
theorem dX11_about_67 : decode cX11_about 67 = .ok (.bipush 24, 2) := by decide +kernel
theorem dX11_about_69 : decode cX11_about 69 = .ok (.iload_n 1, 1) := by decide +kernel
theorem dX11_about_70 : decode cX11_about 70 = .ok (.imul, 1) := by decide +kernel
theorem dX11_about_71 : decode cX11_about 71 = .ok (.iadd, 1) := by decide +kernel
theorem dX11_about_72 : decode cX11_about 72 = .ok (.iload 5, 2) := by decide +kernel
theorem dX11_about_74 : decode cX11_about 74 = .ok (.iadd, 1) := by decide +kernel
theorem dX11_about_75 : decode cX11_about 75 = .ok (.iaload, 1) := by decide +kernel
theorem dX11_about_76 : decode cX11_about 76 = .ok (.iadd, 1) := by decide +kernel
theorem dX11_about_77 : decode cX11_about 77 = .ok (.istore 4, 2) := by decide +kernel
theorem dX11_about_79 : decode cX11_about 79 = .ok (.iinc 5 1, 3) := by decide +kernel
theorem dX11_about_82 : decode cX11_about 82 = .ok (.goto (-64), 3) := by decide +kernel
theorem dX11_about_85 : decode cX11_about 85 = .ok (.iload_n 2, 1) := by decide +kernel
theorem dX11_about_86 : decode cX11_about 86 = .ok (.tableswitch 82 0 5 #[38, 47, 57, 67, 69, 72], 38) := by decide +kernel
theorem dX11_about_124 : decode cX11_about 124 = .ok (.aload_n 0, 1) := by decide +kernel
theorem dX11_about_125 : decode cX11_about 125 = .ok (.getfield 7, 3) := by decide +kernel
theorem dX11_about_128 : decode cX11_about 128 = .ok (.iconst 0, 1) := by decide +kernel
theorem dX11_about_129 : decode cX11_about 129 = .ok (.iload_n 1, 1) := by decide +kernel
theorem dX11_about_130 : decode cX11_about 130 = .ok (.iadd, 1) := by decide +kernel
theorem dX11_about_131 : decode cX11_about 131 = .ok (.iaload, 1) := by decide +kernel
theorem dX11_about_132 : decode cX11_about 132 = .ok (.ireturn, 1) := by decide +kernel
theorem dX11_about_133 : decode cX11_about 133 = .ok (.aload_n 0, 1) := by decide +kernel
theorem dX11_about_134 : decode cX11_about 134 = .ok (.getfield 7, 3) := by decide +kernel
theorem dX11_about_137 : decode cX11_about 137 = .ok (.bipush 48, 2) := by decide +kernel
theorem dX11_about_139 : decode cX11_about 139 = .ok (.iload_n 1, 1) := by decide +kernel
theorem dX11_about_140 : decode cX11_about 140 = .ok (.iadd, 1) := by decide +kernel
theorem dX11_about_141 : decode cX11_about 141 = .ok (.iaload, 1) := by decide +kernel
theorem dX11_about_142 : decode cX11_about 142 = .ok (.ireturn, 1) := by decide +kernel
theorem dX11_about_143 : decode cX11_about 143 = .ok (.aload_n 0, 1) := by decide +kernel
theorem dX11_about_144 : decode cX11_about 144 = .ok (.getfield 7, 3) := by decide +kernel
theorem dX11_about_147 : decode cX11_about 147 = .ok (.bipush 64, 2) := by decide +kernel
theorem dX11_about_149 : decode cX11_about 149 = .ok (.iload_n 1, 1) := by decide +kernel
theorem dX11_about_150 : decode cX11_about 150 = .ok (.iadd, 1) := by decide +kernel
theorem dX11_about_151 : decode cX11_about 151 = .ok (.iaload, 1) := by decide +kernel
theorem dX11_about_152 : decode cX11_about 152 = .ok (.ireturn, 1) := by decide +kernel
theorem dX11_about_153 : decode cX11_about 153 = .ok (.iload_n 3, 1) := by decide +kernel
theorem dX11_about_154 : decode cX11_about 154 = .ok (.ireturn, 1) := by decide +kernel
theorem dX11_about_155 : decode cX11_about 155 = .ok (.iload 4, 2) := by decide +kernel
theorem dX11_about_157 : decode cX11_about 157 = .ok (.ireturn, 1) := by decide +kernel
theorem dX11_about_158 : decode cX11_about 158 = .ok (.aload_n 0, 1) := by decide +kernel
theorem dX11_about_159 : decode cX11_about 159 = .ok (.getfield 7, 3) := by decide +kernel
theorem dX11_about_162 : decode cX11_about 162 = .ok (.bipush 80, 2) := by decide +kernel
theorem dX11_about_164 : decode cX11_about 164 = .ok (.iload_n 1, 1) := by decide +kernel
theorem dX11_about_165 : decode cX11_about 165 = .ok (.iadd, 1) := by decide +kernel
theorem dX11_about_166 : decode cX11_about 166 = .ok (.iaload, 1) := by decide +kernel
theorem dX11_about_167 : decode cX11_about 167 = .ok (.ireturn, 1) := by decide +kernel
theorem dX11_about_168 : decode cX11_about 168 = .ok (.bipush (-2), 2) := by decide +kernel
theorem dX11_about_170 : decode cX11_about 170 = .ok (.ireturn, 1) := by decide +kernel
theorem dX11_letter_0 : decode cX11_letter 0 = .ok (.iload_n 1, 1) := by decide +kernel
theorem dX11_letter_1 : decode cX11_letter 1 = .ok (.i2l, 1) := by decide +kernel
theorem dX11_letter_2 : decode cX11_letter 2 = .ok (.lconst 0, 1) := by decide +kernel
theorem dX11_letter_3 : decode cX11_letter 3 = .ok (.aload_n 0, 1) := by decide +kernel
theorem dX11_letter_4 : decode cX11_letter 4 = .ok (.getfield 7, 3) := by decide +kernel
theorem dX11_letter_7 : decode cX11_letter 7 = .ok (.sipush 10507, 3) := by decide +kernel
theorem dX11_letter_10 : decode cX11_letter 10 = .ok (.iaload, 1) := by decide +kernel
theorem dX11_letter_11 : decode cX11_letter 11 = .ok (.iconst 1, 1) := by decide +kernel
theorem dX11_letter_12 : decode cX11_letter 12 = .ok (.isub, 1) := by decide +kernel
theorem dX11_letter_13 : decode cX11_letter 13 = .ok (.i2l, 1) := by decide +kernel
theorem dX11_letter_14 : decode cX11_letter 14 = .ok (.invokestatic 51, 3) := by decide +kernel
theorem dX11_letter_17 : decode cX11_letter 17 = .ok (.ifCond .ne 5, 3) := by decide +kernel
theorem dX11_letter_20 : decode cX11_letter 20 = .ok (.iconst (-1), 1) := by decide +kernel
theorem dX11_letter_21 : decode cX11_letter 21 = .ok (.ireturn, 1) := by decide +kernel
theorem dX11_letter_22 : decode cX11_letter 22 = .ok (.iload_n 2, 1) := by decide +kernel
theorem dX11_letter_23 : decode cX11_letter 23 = .ok (.i2l, 1) := by decide +kernel
theorem dX11_letter_24 : decode cX11_letter 24 = .ok (.lconst 0, 1) := by decide +kernel
theorem dX11_letter_25 : decode cX11_letter 25 = .ok (.ldc2_w 57, 3) := by decide +kernel
theorem dX11_letter_28 : decode cX11_letter 28 = .ok (.invokestatic 51, 3) := by decide +kernel
theorem dX11_letter_31 : decode cX11_letter 31 = .ok (.ifCond .eq 15, 3) := by decide +kernel
theorem dX11_letter_34 : decode cX11_letter 34 = .ok (.aload_n 0, 1) := by decide +kernel
theorem dX11_letter_35 : decode cX11_letter 35 = .ok (.getfield 7, 3) := by decide +kernel
theorem dX11_letter_38 : decode cX11_letter 38 = .ok (.aload_n 0, 1) := by decide +kernel
theorem dX11_letter_39 : decode cX11_letter 39 = .ok (.iload_n 1, 1) := by decide +kernel
theorem dX11_letter_40 : decode cX11_letter 40 = .ok (.iload_n 2, 1) := by decide +kernel
theorem dX11_letter_41 : decode cX11_letter 41 = .ok (.invokevirtual 68, 3) := by decide +kernel
theorem dX11_letter_44 : decode cX11_letter 44 = .ok (.iaload, 1) := by decide +kernel
theorem dX11_letter_45 : decode cX11_letter 45 = .ok (.ireturn, 1) := by decide +kernel
theorem dX11_letter_46 : decode cX11_letter 46 = .ok (.iload_n 2, 1) := by decide +kernel
theorem dX11_letter_47 : decode cX11_letter 47 = .ok (.bipush 10, 2) := by decide +kernel
theorem dX11_letter_49 : decode cX11_letter 49 = .ok (.if_icmp .ge 6, 3) := by decide +kernel
theorem dX11_letter_52 : decode cX11_letter 52 = .ok (.bipush (-2), 2) := by decide +kernel
theorem dX11_letter_54 : decode cX11_letter 54 = .ok (.ireturn, 1) := by decide +kernel
theorem dX11_letter_55 : decode cX11_letter 55 = .ok (.iload_n 2, 1) := by decide +kernel
theorem dX11_letter_56 : decode cX11_letter 56 = .ok (.bipush 10, 2) := by decide +kernel
theorem dX11_letter_58 : decode cX11_letter 58 = .ok (.isub, 1) := by decide +kernel
theorem dX11_letter_59 : decode cX11_letter 59 = .ok (.aload_n 0, 1) := by decide +kernel
theorem dX11_letter_60 : decode cX11_letter 60 = .ok (.getfield 7, 3) := by decide +kernel
theorem dX11_letter_63 : decode cX11_letter 63 = .ok (.aload_n 0, 1) := by decide +kernel
theorem dX11_letter_64 : decode cX11_letter 64 = .ok (.iload_n 1, 1) := by decide +kernel
theorem dX11_letter_65 : decode cX11_letter 65 = .ok (.iconst 5, 1) := by decide +kernel
theorem dX11_letter_66 : decode cX11_letter 66 = .ok (.invokevirtual 68, 3) := by decide +kernel
theorem dX11_letter_69 : decode cX11_letter 69 = .ok (.iaload, 1) := by decide +kernel
theorem dX11_letter_70 : decode cX11_letter 70 = .ok (.if_icmp .ge 23, 3) := by decide +kernel
theorem dX11_letter_73 : decode cX11_letter 73 = .ok (.aload_n 0, 1) := by decide +kernel
theorem dX11_letter_74 : decode cX11_letter 74 = .ok (.getfield 7, 3) := by decide +kernel
theorem dX11_letter_77 : decode cX11_letter 77 = .ok (.aload_n 0, 1) := by decide +kernel
theorem dX11_letter_78 : decode cX11_letter 78 = .ok (.iload_n 1, 1) := by decide +kernel
theorem dX11_letter_79 : decode cX11_letter 79 = .ok (.bipush 6, 2) := by decide +kernel
theorem dX11_letter_81 : decode cX11_letter 81 = .ok (.iload_n 2, 1) := by decide +kernel
theorem dX11_letter_82 : decode cX11_letter 82 = .ok (.iadd, 1) := by decide +kernel
theorem dX11_letter_83 : decode cX11_letter 83 = .ok (.bipush 10, 2) := by decide +kernel
theorem dX11_letter_85 : decode cX11_letter 85 = .ok (.isub, 1) := by decide +kernel
theorem dX11_letter_86 : decode cX11_letter 86 = .ok (.invokevirtual 68, 3) := by decide +kernel
theorem dX11_letter_89 : decode cX11_letter 89 = .ok (.iaload, 1) := by decide +kernel
theorem dX11_letter_90 : decode cX11_letter 90 = .ok (.goto 5, 3) := by decide +kernel
theorem dX11_letter_93 : decode cX11_letter 93 = .ok (.bipush (-6), 2) := by decide +kernel
theorem dX11_letter_95 : decode cX11_letter 95 = .ok (.ireturn, 1) := by decide +kernel
theorem dX11_even_0 : decode cX11_even 0 = .ok (.iconst 1, 1) := by decide +kernel
theorem dX11_even_1 : decode cX11_even 1 = .ok (.istore_n 1, 1) := by decide +kernel
theorem dX11_even_2 : decode cX11_even 2 = .ok (.iconst 0, 1) := by decide +kernel
theorem dX11_even_3 : decode cX11_even 3 = .ok (.istore_n 2, 1) := by decide +kernel
theorem dX11_even_4 : decode cX11_even 4 = .ok (.iload_n 2, 1) := by decide +kernel
theorem dX11_even_5 : decode cX11_even 5 = .ok (.aload_n 0, 1) := by decide +kernel
theorem dX11_even_6 : decode cX11_even 6 = .ok (.getfield 7, 3) := by decide +kernel
theorem dX11_even_9 : decode cX11_even 9 = .ok (.sipush 10505, 3) := by decide +kernel
theorem dX11_even_12 : decode cX11_even 12 = .ok (.iaload, 1) := by decide +kernel
theorem dX11_even_13 : decode cX11_even 13 = .ok (.if_icmp .ge 89, 3) := by decide +kernel
theorem dX11_even_16 : decode cX11_even 16 = .ok (.iconst 0, 1) := by decide +kernel
theorem dX11_even_17 : decode cX11_even 17 = .ok (.istore_n 3, 1) := by decide +kernel
theorem dX11_even_18 : decode cX11_even 18 = .ok (.iload_n 3, 1) := by decide +kernel
theorem dX11_even_19 : decode cX11_even 19 = .ok (.aload_n 0, 1) := by decide +kernel
theorem dX11_even_20 : decode cX11_even 20 = .ok (.getfield 7, 3) := by decide +kernel
theorem dX11_even_23 : decode cX11_even 23 = .ok (.bipush 16, 2) := by decide +kernel
theorem dX11_even_25 : decode cX11_even 25 = .ok (.iload_n 2, 1) := by decide +kernel
theorem dX11_even_26 : decode cX11_even 26 = .ok (.iadd, 1) := by decide +kernel
theorem dX11_even_27 : decode cX11_even 27 = .ok (.iaload, 1) := by decide +kernel
theorem dX11_even_28 : decode cX11_even 28 = .ok (.if_icmp .ge 68, 3) := by decide +kernel
theorem dX11_even_31 : decode cX11_even 31 = .ok (.aload_n 0, 1) := by decide +kernel
theorem dX11_even_32 : decode cX11_even 32 = .ok (.getfield 7, 3) := by decide +kernel
theorem dX11_even_35 : decode cX11_even 35 = .ok (.iconst 0, 1) := by decide +kernel
theorem dX11_even_36 : decode cX11_even 36 = .ok (.iload_n 2, 1) := by decide +kernel
theorem dX11_even_37 : decode cX11_even 37 = .ok (.iadd, 1) := by decide +kernel
theorem dX11_even_38 : decode cX11_even 38 = .ok (.iaload, 1) := by decide +kernel
theorem dX11_even_39 : decode cX11_even 39 = .ok (.iconst 1, 1) := by decide +kernel
theorem dX11_even_40 : decode cX11_even 40 = .ok (.if_icmp .ne 56, 3) := by decide +kernel
theorem dX11_even_43 : decode cX11_even 43 = .ok (.aload_n 0, 1) := by decide +kernel
theorem dX11_even_44 : decode cX11_even 44 = .ok (.getfield 7, 3) := by decide +kernel
theorem dX11_even_47 : decode cX11_even 47 = .ok (.bipush 96, 2) := by decide +kernel
theorem dX11_even_49 : decode cX11_even 49 = .ok (.iconst 5, 1) := by decide +kernel
theorem dX11_even_50 : decode cX11_even 50 = .ok (.iload_n 2, 1) := by decide +kernel
theorem dX11_even_51 : decode cX11_even 51 = .ok (.imul, 1) := by decide +kernel
theorem dX11_even_52 : decode cX11_even 52 = .ok (.iadd, 1) := by decide +kernel
theorem dX11_even_53 : decode cX11_even 53 = .ok (.iload_n 3, 1) := by decide +kernel
theorem dX11_even_54 : decode cX11_even 54 = .ok (.iadd, 1) := by decide +kernel
theorem dX11_even_55 : decode cX11_even 55 = .ok (.iaload, 1) := by decide +kernel
theorem dX11_even_56 : decode cX11_even 56 = .ok (.istore 4, 2) := by decide +kernel
theorem dX11_even_58 : decode cX11_even 58 = .ok (.iload_n 1, 1) := by decide +kernel
theorem dX11_even_59 : decode cX11_even 59 = .ok (.ifCond .eq 29, 3) := by decide +kernel
theorem dX11_even_62 : decode cX11_even 62 = .ok (.aload_n 0, 1) := by decide +kernel
theorem dX11_even_63 : decode cX11_even 63 = .ok (.getfield 7, 3) := by decide +kernel
theorem dX11_even_66 : decode cX11_even 66 = .ok (.iconst 0, 1) := by decide +kernel
theorem dX11_even_67 : decode cX11_even 67 = .ok (.iload 4, 2) := by decide +kernel
theorem dX11_even_69 : decode cX11_even 69 = .ok (.iadd, 1) := by decide +kernel
theorem dX11_even_70 : decode cX11_even 70 = .ok (.iaload, 1) := by decide +kernel
theorem dX11_even_71 : decode cX11_even 71 = .ok (.ifCond .eq 13, 3) := by decide +kernel
theorem dX11_even_74 : decode cX11_even 74 = .ok (.aload_n 0, 1) := by decide +kernel
theorem dX11_even_75 : decode cX11_even 75 = .ok (.iload 4, 2) := by decide +kernel
theorem dX11_even_77 : decode cX11_even 77 = .ok (.iload_n 2, 1) := by decide +kernel
theorem dX11_even_78 : decode cX11_even 78 = .ok (.invokevirtual 89, 3) := by decide +kernel
theorem dX11_even_81 : decode cX11_even 81 = .ok (.ifCond .eq 7, 3) := by decide +kernel
theorem dX11_even_84 : decode cX11_even 84 = .ok (.iconst 1, 1) := by decide +kernel
theorem dX11_even_85 : decode cX11_even 85 = .ok (.goto 4, 3) := by decide +kernel
theorem dX11_even_88 : decode cX11_even 88 = .ok (.iconst 0, 1) := by decide +kernel
theorem dX11_even_89 : decode cX11_even 89 = .ok (.istore_n 1, 1) := by decide +kernel
theorem dX11_even_90 : decode cX11_even 90 = .ok (.iinc 3 1, 3) := by decide +kernel
theorem dX11_even_93 : decode cX11_even 93 = .ok (.goto (-75), 3) := by decide +kernel
theorem dX11_even_96 : decode cX11_even 96 = .ok (.iinc 2 1, 3) := by decide +kernel
theorem dX11_even_99 : decode cX11_even 99 = .ok (.goto (-95), 3) := by decide +kernel
theorem dX11_even_102 : decode cX11_even 102 = .ok (.iload_n 1, 1) := by decide +kernel
theorem dX11_even_103 : decode cX11_even 103 = .ok (.ifCond .eq 7, 3) := by decide +kernel
theorem dX11_even_106 : decode cX11_even 106 = .ok (.iconst 1, 1) := by decide +kernel
theorem dX11_even_107 : decode cX11_even 107 = .ok (.goto 4, 3) := by decide +kernel
theorem dX11_even_110 : decode cX11_even 110 = .ok (.iconst 0, 1) := by decide +kernel
theorem dX11_even_111 : decode cX11_even 111 = .ok (.ireturn, 1) := by decide +kernel
theorem dX11_reach_0 : decode cX11_reach 0 = .ok (.aload_n 0, 1) := by decide +kernel
theorem dX11_reach_1 : decode cX11_reach 1 = .ok (.iload_n 1, 1) := by decide +kernel
theorem dX11_reach_2 : decode cX11_reach 2 = .ok (.invokevirtual 110, 3) := by decide +kernel
theorem dX11_reach_5 : decode cX11_reach 5 = .ok (.ifCond .ne 5, 3) := by decide +kernel
theorem dX11_reach_8 : decode cX11_reach 8 = .ok (.iconst (-1), 1) := by decide +kernel
theorem dX11_reach_9 : decode cX11_reach 9 = .ok (.ireturn, 1) := by decide +kernel
theorem dX11_reach_10 : decode cX11_reach 10 = .ok (.aload_n 0, 1) := by decide +kernel
theorem dX11_reach_11 : decode cX11_reach 11 = .ok (.getfield 7, 3) := by decide +kernel
theorem dX11_reach_14 : decode cX11_reach 14 = .ok (.iconst 0, 1) := by decide +kernel
theorem dX11_reach_15 : decode cX11_reach 15 = .ok (.iload_n 1, 1) := by decide +kernel
theorem dX11_reach_16 : decode cX11_reach 16 = .ok (.iadd, 1) := by decide +kernel
theorem dX11_reach_17 : decode cX11_reach 17 = .ok (.iaload, 1) := by decide +kernel
theorem dX11_reach_18 : decode cX11_reach 18 = .ok (.ifCond .ne 6, 3) := by decide +kernel
theorem dX11_reach_21 : decode cX11_reach 21 = .ok (.bipush (-3), 2) := by decide +kernel
theorem dX11_reach_23 : decode cX11_reach 23 = .ok (.ireturn, 1) := by decide +kernel
theorem dX11_reach_24 : decode cX11_reach 24 = .ok (.iconst 1, 1) := by decide +kernel
theorem dX11_reach_25 : decode cX11_reach 25 = .ok (.iload_n 1, 1) := by decide +kernel
theorem dX11_reach_26 : decode cX11_reach 26 = .ok (.ishl, 1) := by decide +kernel
theorem dX11_reach_27 : decode cX11_reach 27 = .ok (.istore_n 2, 1) := by decide +kernel
theorem dX11_reach_28 : decode cX11_reach 28 = .ok (.iconst 1, 1) := by decide +kernel
theorem dX11_reach_29 : decode cX11_reach 29 = .ok (.istore_n 3, 1) := by decide +kernel
theorem dX11_reach_30 : decode cX11_reach 30 = .ok (.iload_n 3, 1) := by decide +kernel
theorem dX11_reach_31 : decode cX11_reach 31 = .ok (.ifCond .eq 118, 3) := by decide +kernel
theorem dX11_reach_34 : decode cX11_reach 34 = .ok (.iload_n 2, 1) := by decide +kernel
theorem dX11_reach_35 : decode cX11_reach 35 = .ok (.istore 4, 2) := by decide +kernel
theorem dX11_reach_37 : decode cX11_reach 37 = .ok (.iconst 0, 1) := by decide +kernel
theorem dX11_reach_38 : decode cX11_reach 38 = .ok (.istore 5, 2) := by decide +kernel
theorem dX11_reach_40 : decode cX11_reach 40 = .ok (.iload 5, 2) := by decide +kernel
theorem dX11_reach_42 : decode cX11_reach 42 = .ok (.aload_n 0, 1) := by decide +kernel
theorem dX11_reach_43 : decode cX11_reach 43 = .ok (.getfield 7, 3) := by decide +kernel
theorem dX11_reach_46 : decode cX11_reach 46 = .ok (.sipush 10505, 3) := by decide +kernel
theorem dX11_reach_49 : decode cX11_reach 49 = .ok (.iaload, 1) := by decide +kernel
theorem dX11_reach_50 : decode cX11_reach 50 = .ok (.if_icmp .ge 84, 3) := by decide +kernel
theorem dX11_reach_53 : decode cX11_reach 53 = .ok (.iconst 0, 1) := by decide +kernel
theorem dX11_reach_54 : decode cX11_reach 54 = .ok (.istore 6, 2) := by decide +kernel
theorem dX11_reach_56 : decode cX11_reach 56 = .ok (.iload 6, 2) := by decide +kernel
theorem dX11_reach_58 : decode cX11_reach 58 = .ok (.aload_n 0, 1) := by decide +kernel
theorem dX11_reach_59 : decode cX11_reach 59 = .ok (.getfield 7, 3) := by decide +kernel
theorem dX11_reach_62 : decode cX11_reach 62 = .ok (.bipush 16, 2) := by decide +kernel
theorem dX11_reach_64 : decode cX11_reach 64 = .ok (.iload 5, 2) := by decide +kernel
theorem dX11_reach_66 : decode cX11_reach 66 = .ok (.iadd, 1) := by decide +kernel
theorem dX11_reach_67 : decode cX11_reach 67 = .ok (.iaload, 1) := by decide +kernel
theorem dX11_reach_68 : decode cX11_reach 68 = .ok (.if_icmp .ge 60, 3) := by decide +kernel
theorem dX11_reach_71 : decode cX11_reach 71 = .ok (.iload_n 2, 1) := by decide +kernel
theorem dX11_reach_72 : decode cX11_reach 72 = .ok (.iload 5, 2) := by decide +kernel
theorem dX11_reach_74 : decode cX11_reach 74 = .ok (.ishr, 1) := by decide +kernel
theorem dX11_reach_75 : decode cX11_reach 75 = .ok (.iconst 1, 1) := by decide +kernel
theorem dX11_reach_76 : decode cX11_reach 76 = .ok (.iand, 1) := by decide +kernel
theorem dX11_reach_77 : decode cX11_reach 77 = .ok (.iconst 1, 1) := by decide +kernel
theorem dX11_reach_78 : decode cX11_reach 78 = .ok (.if_icmp .ne 50, 3) := by decide +kernel
theorem dX11_reach_81 : decode cX11_reach 81 = .ok (.aload_n 0, 1) := by decide +kernel
theorem dX11_reach_82 : decode cX11_reach 82 = .ok (.getfield 7, 3) := by decide +kernel
theorem dX11_reach_85 : decode cX11_reach 85 = .ok (.bipush 96, 2) := by decide +kernel
theorem dX11_reach_87 : decode cX11_reach 87 = .ok (.iconst 5, 1) := by decide +kernel
theorem dX11_reach_88 : decode cX11_reach 88 = .ok (.iload 5, 2) := by decide +kernel
theorem dX11_reach_90 : decode cX11_reach 90 = .ok (.imul, 1) := by decide +kernel
theorem dX11_reach_91 : decode cX11_reach 91 = .ok (.iadd, 1) := by decide +kernel
theorem dX11_reach_92 : decode cX11_reach 92 = .ok (.iload 6, 2) := by decide +kernel
theorem dX11_reach_94 : decode cX11_reach 94 = .ok (.iadd, 1) := by decide +kernel
theorem dX11_reach_95 : decode cX11_reach 95 = .ok (.iaload, 1) := by decide +kernel
theorem dX11_reach_96 : decode cX11_reach 96 = .ok (.istore 7, 2) := by decide +kernel
theorem dX11_reach_98 : decode cX11_reach 98 = .ok (.aload_n 0, 1) := by decide +kernel
theorem dX11_reach_99 : decode cX11_reach 99 = .ok (.getfield 7, 3) := by decide +kernel
theorem dX11_reach_102 : decode cX11_reach 102 = .ok (.iconst 0, 1) := by decide +kernel
theorem dX11_reach_103 : decode cX11_reach 103 = .ok (.iload 7, 2) := by decide +kernel
theorem dX11_reach_105 : decode cX11_reach 105 = .ok (.iadd, 1) := by decide +kernel
theorem dX11_reach_106 : decode cX11_reach 106 = .ok (.iaload, 1) := by decide +kernel
theorem dX11_reach_107 : decode cX11_reach 107 = .ok (.iconst 1, 1) := by decide +kernel
theorem dX11_reach_108 : decode cX11_reach 108 = .ok (.if_icmp .ne 12, 3) := by decide +kernel
theorem dX11_reach_111 : decode cX11_reach 111 = .ok (.iload_n 2, 1) := by decide +kernel
theorem dX11_reach_112 : decode cX11_reach 112 = .ok (.iconst 1, 1) := by decide +kernel
theorem dX11_reach_113 : decode cX11_reach 113 = .ok (.iload 7, 2) := by decide +kernel
theorem dX11_reach_115 : decode cX11_reach 115 = .ok (.ishl, 1) := by decide +kernel
theorem dX11_reach_116 : decode cX11_reach 116 = .ok (.ior, 1) := by decide +kernel
theorem dX11_reach_117 : decode cX11_reach 117 = .ok (.goto 4, 3) := by decide +kernel
theorem dX11_reach_120 : decode cX11_reach 120 = .ok (.iload_n 2, 1) := by decide +kernel
theorem dX11_reach_121 : decode cX11_reach 121 = .ok (.istore_n 2, 1) := by decide +kernel
theorem dX11_reach_122 : decode cX11_reach 122 = .ok (.iinc 6 1, 3) := by decide +kernel
theorem dX11_reach_125 : decode cX11_reach 125 = .ok (.goto (-69), 3) := by decide +kernel
theorem dX11_reach_128 : decode cX11_reach 128 = .ok (.iinc 5 1, 3) := by decide +kernel
theorem dX11_reach_131 : decode cX11_reach 131 = .ok (.goto (-91), 3) := by decide +kernel
theorem dX11_reach_134 : decode cX11_reach 134 = .ok (.iload_n 2, 1) := by decide +kernel
theorem dX11_reach_135 : decode cX11_reach 135 = .ok (.iload 4, 2) := by decide +kernel
theorem dX11_reach_137 : decode cX11_reach 137 = .ok (.if_icmp .eq 7, 3) := by decide +kernel
theorem dX11_reach_140 : decode cX11_reach 140 = .ok (.iconst 1, 1) := by decide +kernel
theorem dX11_reach_141 : decode cX11_reach 141 = .ok (.goto 4, 3) := by decide +kernel
theorem dX11_reach_144 : decode cX11_reach 144 = .ok (.iconst 0, 1) := by decide +kernel
theorem dX11_reach_145 : decode cX11_reach 145 = .ok (.istore_n 3, 1) := by decide +kernel
theorem dX11_reach_146 : decode cX11_reach 146 = .ok (.goto (-116), 3) := by decide +kernel
theorem dX11_reach_149 : decode cX11_reach 149 = .ok (.iconst 0, 1) := by decide +kernel
theorem dX11_reach_150 : decode cX11_reach 150 = .ok (.istore 4, 2) := by decide +kernel
theorem dX11_reach_152 : decode cX11_reach 152 = .ok (.iconst 0, 1) := by decide +kernel
theorem dX11_reach_153 : decode cX11_reach 153 = .ok (.istore 5, 2) := by decide +kernel
theorem dX11_reach_155 : decode cX11_reach 155 = .ok (.iload 5, 2) := by decide +kernel
theorem dX11_reach_157 : decode cX11_reach 157 = .ok (.bipush 16, 2) := by decide +kernel
theorem dX11_reach_159 : decode cX11_reach 159 = .ok (.if_icmp .ge 20, 3) := by decide +kernel
theorem dX11_reach_162 : decode cX11_reach 162 = .ok (.iload 4, 2) := by decide +kernel
theorem dX11_reach_164 : decode cX11_reach 164 = .ok (.iload_n 2, 1) := by decide +kernel
theorem dX11_reach_165 : decode cX11_reach 165 = .ok (.iload 5, 2) := by decide +kernel
theorem dX11_reach_167 : decode cX11_reach 167 = .ok (.ishr, 1) := by decide +kernel
theorem dX11_reach_168 : decode cX11_reach 168 = .ok (.iconst 1, 1) := by decide +kernel
theorem dX11_reach_169 : decode cX11_reach 169 = .ok (.iand, 1) := by decide +kernel
theorem dX11_reach_170 : decode cX11_reach 170 = .ok (.iadd, 1) := by decide +kernel
theorem dX11_reach_171 : decode cX11_reach 171 = .ok (.istore 4, 2) := by decide +kernel
theorem dX11_reach_173 : decode cX11_reach 173 = .ok (.iinc 5 1, 3) := by decide +kernel
theorem dX11_reach_176 : decode cX11_reach 176 = .ok (.goto (-21), 3) := by decide +kernel
theorem dX11_reach_179 : decode cX11_reach 179 = .ok (.iload 4, 2) := by decide +kernel
theorem dX11_reach_181 : decode cX11_reach 181 = .ok (.ireturn, 1) := by decide +kernel
theorem dX11_came_0 : decode cX11_came 0 = .ok (.iload_n 1, 1) := by decide +kernel
theorem dX11_came_1 : decode cX11_came 1 = .ok (.i2l, 1) := by decide +kernel
theorem dX11_came_2 : decode cX11_came 2 = .ok (.lconst 0, 1) := by decide +kernel
theorem dX11_came_3 : decode cX11_came 3 = .ok (.ldc2_w 180, 3) := by decide +kernel
theorem dX11_came_6 : decode cX11_came 6 = .ok (.invokestatic 51, 3) := by decide +kernel
theorem dX11_came_9 : decode cX11_came 9 = .ok (.ifCond .eq 16, 3) := by decide +kernel
theorem dX11_came_12 : decode cX11_came 12 = .ok (.aload_n 0, 1) := by decide +kernel
theorem dX11_came_13 : decode cX11_came 13 = .ok (.getfield 7, 3) := by decide +kernel
theorem dX11_came_16 : decode cX11_came 16 = .ok (.sipush 10492, 3) := by decide +kernel
theorem dX11_came_19 : decode cX11_came 19 = .ok (.iload_n 1, 1) := by decide +kernel
theorem dX11_came_20 : decode cX11_came 20 = .ok (.iadd, 1) := by decide +kernel
theorem dX11_came_21 : decode cX11_came 21 = .ok (.iaload, 1) := by decide +kernel
theorem dX11_came_22 : decode cX11_came 22 = .ok (.goto 5, 3) := by decide +kernel
theorem dX11_came_25 : decode cX11_came 25 = .ok (.bipush (-2), 2) := by decide +kernel
theorem dX11_came_27 : decode cX11_came 27 = .ok (.ireturn, 1) := by decide +kernel
theorem dX11_spread_0 : decode cX11_spread 0 = .ok (.aload_n 0, 1) := by decide +kernel
theorem dX11_spread_1 : decode cX11_spread 1 = .ok (.iload_n 1, 1) := by decide +kernel
theorem dX11_spread_2 : decode cX11_spread 2 = .ok (.invokevirtual 177, 3) := by decide +kernel
theorem dX11_spread_5 : decode cX11_spread 5 = .ok (.ifCond .ne 5, 3) := by decide +kernel
theorem dX11_spread_8 : decode cX11_spread 8 = .ok (.iconst (-1), 1) := by decide +kernel
theorem dX11_spread_9 : decode cX11_spread 9 = .ok (.ireturn, 1) := by decide +kernel
theorem dX11_spread_10 : decode cX11_spread 10 = .ok (.iconst 0, 1) := by decide +kernel
theorem dX11_spread_11 : decode cX11_spread 11 = .ok (.istore_n 2, 1) := by decide +kernel
theorem dX11_spread_12 : decode cX11_spread 12 = .ok (.iconst 0, 1) := by decide +kernel
theorem dX11_spread_13 : decode cX11_spread 13 = .ok (.istore_n 3, 1) := by decide +kernel
theorem dX11_spread_14 : decode cX11_spread 14 = .ok (.iload_n 3, 1) := by decide +kernel
theorem dX11_spread_15 : decode cX11_spread 15 = .ok (.aload_n 0, 1) := by decide +kernel
theorem dX11_spread_16 : decode cX11_spread 16 = .ok (.getfield 7, 3) := by decide +kernel
theorem dX11_spread_19 : decode cX11_spread 19 = .ok (.sipush 10505, 3) := by decide +kernel
theorem dX11_spread_22 : decode cX11_spread 22 = .ok (.iaload, 1) := by decide +kernel
theorem dX11_spread_23 : decode cX11_spread 23 = .ok (.if_icmp .ge 47, 3) := by decide +kernel
theorem dX11_spread_26 : decode cX11_spread 26 = .ok (.iload_n 2, 1) := by decide +kernel
theorem dX11_spread_27 : decode cX11_spread 27 = .ok (.aload_n 0, 1) := by decide +kernel
theorem dX11_spread_28 : decode cX11_spread 28 = .ok (.getfield 7, 3) := by decide +kernel
theorem dX11_spread_31 : decode cX11_spread 31 = .ok (.iconst 0, 1) := by decide +kernel
theorem dX11_spread_32 : decode cX11_spread 32 = .ok (.iload_n 3, 1) := by decide +kernel
theorem dX11_spread_33 : decode cX11_spread 33 = .ok (.iadd, 1) := by decide +kernel
theorem dX11_spread_34 : decode cX11_spread 34 = .ok (.iaload, 1) := by decide +kernel
theorem dX11_spread_35 : decode cX11_spread 35 = .ok (.iconst 1, 1) := by decide +kernel
theorem dX11_spread_36 : decode cX11_spread 36 = .ok (.if_icmp .ne 25, 3) := by decide +kernel
theorem dX11_spread_39 : decode cX11_spread 39 = .ok (.aload_n 0, 1) := by decide +kernel
theorem dX11_spread_40 : decode cX11_spread 40 = .ok (.getfield 7, 3) := by decide +kernel
theorem dX11_spread_43 : decode cX11_spread 43 = .ok (.sipush 384, 3) := by decide +kernel
theorem dX11_spread_46 : decode cX11_spread 46 = .ok (.bipush 24, 2) := by decide +kernel
theorem dX11_spread_48 : decode cX11_spread 48 = .ok (.iload_n 3, 1) := by decide +kernel
theorem dX11_spread_49 : decode cX11_spread 49 = .ok (.imul, 1) := by decide +kernel
theorem dX11_spread_50 : decode cX11_spread 50 = .ok (.iadd, 1) := by decide +kernel
theorem dX11_spread_51 : decode cX11_spread 51 = .ok (.iload_n 1, 1) := by decide +kernel
theorem dX11_spread_52 : decode cX11_spread 52 = .ok (.iadd, 1) := by decide +kernel
theorem dX11_spread_53 : decode cX11_spread 53 = .ok (.iaload, 1) := by decide +kernel
theorem dX11_spread_54 : decode cX11_spread 54 = .ok (.ifCond .lt 7, 3) := by decide +kernel
theorem dX11_spread_57 : decode cX11_spread 57 = .ok (.iconst 1, 1) := by decide +kernel
theorem dX11_spread_58 : decode cX11_spread 58 = .ok (.goto 4, 3) := by decide +kernel
theorem dX11_spread_61 : decode cX11_spread 61 = .ok (.iconst 0, 1) := by decide +kernel
theorem dX11_spread_62 : decode cX11_spread 62 = .ok (.iadd, 1) := by decide +kernel
theorem dX11_spread_63 : decode cX11_spread 63 = .ok (.istore_n 2, 1) := by decide +kernel
theorem dX11_spread_64 : decode cX11_spread 64 = .ok (.iinc 3 1, 3) := by decide +kernel
theorem dX11_spread_67 : decode cX11_spread 67 = .ok (.goto (-53), 3) := by decide +kernel
theorem dX11_spread_70 : decode cX11_spread 70 = .ok (.iload_n 2, 1) := by decide +kernel
theorem dX11_spread_71 : decode cX11_spread 71 = .ok (.ireturn, 1) := by decide +kernel
theorem dX11_told_0 : decode cX11_told 0 = .ok (.iload_n 1, 1) := by decide +kernel
theorem dX11_told_1 : decode cX11_told 1 = .ok (.tableswitch 141 0 7 #[47, 56, 91, 100, 109, 118, 127, 132], 47) := by decide +kernel
theorem dX11_told_48 : decode cX11_told 48 = .ok (.aload_n 0, 1) := by decide +kernel
theorem dX11_told_49 : decode cX11_told 49 = .ok (.getfield 7, 3) := by decide +kernel
theorem dX11_told_52 : decode cX11_told 52 = .ok (.sipush 10505, 3) := by decide +kernel
theorem dX11_told_55 : decode cX11_told 55 = .ok (.iaload, 1) := by decide +kernel
theorem dX11_told_56 : decode cX11_told 56 = .ok (.ireturn, 1) := by decide +kernel
theorem dX11_told_57 : decode cX11_told 57 = .ok (.iconst 0, 1) := by decide +kernel
theorem dX11_told_58 : decode cX11_told 58 = .ok (.istore_n 2, 1) := by decide +kernel
theorem dX11_told_59 : decode cX11_told 59 = .ok (.iconst 0, 1) := by decide +kernel
theorem dX11_told_60 : decode cX11_told 60 = .ok (.istore_n 3, 1) := by decide +kernel
theorem dX11_told_61 : decode cX11_told 61 = .ok (.iload_n 3, 1) := by decide +kernel
theorem dX11_told_62 : decode cX11_told 62 = .ok (.aload_n 0, 1) := by decide +kernel
theorem dX11_told_63 : decode cX11_told 63 = .ok (.getfield 7, 3) := by decide +kernel
theorem dX11_told_66 : decode cX11_told 66 = .ok (.sipush 10505, 3) := by decide +kernel
theorem dX11_told_69 : decode cX11_told 69 = .ok (.iaload, 1) := by decide +kernel
theorem dX11_told_70 : decode cX11_told 70 = .ok (.if_icmp .ge 20, 3) := by decide +kernel
theorem dX11_told_73 : decode cX11_told 73 = .ok (.iload_n 2, 1) := by decide +kernel
theorem dX11_told_74 : decode cX11_told 74 = .ok (.aload_n 0, 1) := by decide +kernel
theorem dX11_told_75 : decode cX11_told 75 = .ok (.getfield 7, 3) := by decide +kernel
theorem dX11_told_78 : decode cX11_told 78 = .ok (.iconst 0, 1) := by decide +kernel
theorem dX11_told_79 : decode cX11_told 79 = .ok (.iload_n 3, 1) := by decide +kernel
theorem dX11_told_80 : decode cX11_told 80 = .ok (.iadd, 1) := by decide +kernel
theorem dX11_told_81 : decode cX11_told 81 = .ok (.iaload, 1) := by decide +kernel
theorem dX11_told_82 : decode cX11_told 82 = .ok (.iadd, 1) := by decide +kernel
theorem dX11_told_83 : decode cX11_told 83 = .ok (.istore_n 2, 1) := by decide +kernel
theorem dX11_told_84 : decode cX11_told 84 = .ok (.iinc 3 1, 3) := by decide +kernel
theorem dX11_told_87 : decode cX11_told 87 = .ok (.goto (-26), 3) := by decide +kernel
theorem dX11_told_90 : decode cX11_told 90 = .ok (.iload_n 2, 1) := by decide +kernel
theorem dX11_told_91 : decode cX11_told 91 = .ok (.ireturn, 1) := by decide +kernel
theorem dX11_told_92 : decode cX11_told 92 = .ok (.aload_n 0, 1) := by decide +kernel
theorem dX11_told_93 : decode cX11_told 93 = .ok (.getfield 7, 3) := by decide +kernel
theorem dX11_told_96 : decode cX11_told 96 = .ok (.sipush 10507, 3) := by decide +kernel
theorem dX11_told_99 : decode cX11_told 99 = .ok (.iaload, 1) := by decide +kernel
theorem dX11_told_100 : decode cX11_told 100 = .ok (.ireturn, 1) := by decide +kernel
theorem dX11_told_101 : decode cX11_told 101 = .ok (.aload_n 0, 1) := by decide +kernel
theorem dX11_told_102 : decode cX11_told 102 = .ok (.getfield 7, 3) := by decide +kernel
theorem dX11_told_105 : decode cX11_told 105 = .ok (.sipush 10508, 3) := by decide +kernel
theorem dX11_told_108 : decode cX11_told 108 = .ok (.iaload, 1) := by decide +kernel
theorem dX11_told_109 : decode cX11_told 109 = .ok (.ireturn, 1) := by decide +kernel
theorem dX11_told_110 : decode cX11_told 110 = .ok (.aload_n 0, 1) := by decide +kernel
theorem dX11_told_111 : decode cX11_told 111 = .ok (.getfield 7, 3) := by decide +kernel
theorem dX11_told_114 : decode cX11_told 114 = .ok (.sipush 10506, 3) := by decide +kernel
theorem dX11_told_117 : decode cX11_told 117 = .ok (.iaload, 1) := by decide +kernel
theorem dX11_told_118 : decode cX11_told 118 = .ok (.ireturn, 1) := by decide +kernel
theorem dX11_told_119 : decode cX11_told 119 = .ok (.aload_n 0, 1) := by decide +kernel
theorem dX11_told_120 : decode cX11_told 120 = .ok (.getfield 7, 3) := by decide +kernel
theorem dX11_told_123 : decode cX11_told 123 = .ok (.sipush 10509, 3) := by decide +kernel
theorem dX11_told_126 : decode cX11_told 126 = .ok (.iaload, 1) := by decide +kernel
theorem dX11_told_127 : decode cX11_told 127 = .ok (.ireturn, 1) := by decide +kernel
theorem dX11_told_128 : decode cX11_told 128 = .ok (.aload_n 0, 1) := by decide +kernel
theorem dX11_told_129 : decode cX11_told 129 = .ok (.getfield 65, 3) := by decide +kernel
theorem dX11_told_132 : decode cX11_told 132 = .ok (.ireturn, 1) := by decide +kernel
theorem dX11_told_133 : decode cX11_told 133 = .ok (.aload_n 0, 1) := by decide +kernel
theorem dX11_told_134 : decode cX11_told 134 = .ok (.getfield 7, 3) := by decide +kernel
theorem dX11_told_137 : decode cX11_told 137 = .ok (.sipush 10510, 3) := by decide +kernel
theorem dX11_told_140 : decode cX11_told 140 = .ok (.iaload, 1) := by decide +kernel
theorem dX11_told_141 : decode cX11_told 141 = .ok (.ireturn, 1) := by decide +kernel
theorem dX11_told_142 : decode cX11_told 142 = .ok (.bipush (-2), 2) := by decide +kernel
theorem dX11_told_144 : decode cX11_told 144 = .ok (.ireturn, 1) := by decide +kernel
theorem dX11_keep_0 : decode cX11_keep 0 = .ok (.iload_n 1, 1) := by decide +kernel
theorem dX11_keep_1 : decode cX11_keep 1 = .ok (.i2l, 1) := by decide +kernel
theorem dX11_keep_2 : decode cX11_keep 2 = .ok (.lconst 0, 1) := by decide +kernel
theorem dX11_keep_3 : decode cX11_keep 3 = .ok (.lconst 1, 1) := by decide +kernel
theorem dX11_keep_4 : decode cX11_keep 4 = .ok (.invokestatic 51, 3) := by decide +kernel
theorem dX11_keep_7 : decode cX11_keep 7 = .ok (.ifCond .ne 5, 3) := by decide +kernel
theorem dX11_keep_10 : decode cX11_keep 10 = .ok (.iconst (-1), 1) := by decide +kernel
theorem dX11_keep_11 : decode cX11_keep 11 = .ok (.ireturn, 1) := by decide +kernel
theorem dX11_keep_12 : decode cX11_keep 12 = .ok (.iconst 0, 1) := by decide +kernel
theorem dX11_keep_13 : decode cX11_keep 13 = .ok (.istore_n 2, 1) := by decide +kernel
theorem dX11_keep_14 : decode cX11_keep 14 = .ok (.iload_n 2, 1) := by decide +kernel
theorem dX11_keep_15 : decode cX11_keep 15 = .ok (.sipush 10511, 3) := by decide +kernel
theorem dX11_keep_18 : decode cX11_keep 18 = .ok (.if_icmp .ge 27, 3) := by decide +kernel
theorem dX11_keep_21 : decode cX11_keep 21 = .ok (.aload_n 0, 1) := by decide +kernel
theorem dX11_keep_22 : decode cX11_keep 22 = .ok (.getfield 41, 3) := by decide +kernel
theorem dX11_keep_25 : decode cX11_keep 25 = .ok (.sipush 10511, 3) := by decide +kernel
theorem dX11_keep_28 : decode cX11_keep 28 = .ok (.iload_n 1, 1) := by decide +kernel
theorem dX11_keep_29 : decode cX11_keep 29 = .ok (.imul, 1) := by decide +kernel
theorem dX11_keep_30 : decode cX11_keep 30 = .ok (.iload_n 2, 1) := by decide +kernel
theorem dX11_keep_31 : decode cX11_keep 31 = .ok (.iadd, 1) := by decide +kernel
theorem dX11_keep_32 : decode cX11_keep 32 = .ok (.aload_n 0, 1) := by decide +kernel
theorem dX11_keep_33 : decode cX11_keep 33 = .ok (.getfield 7, 3) := by decide +kernel
theorem dX11_keep_36 : decode cX11_keep 36 = .ok (.iload_n 2, 1) := by decide +kernel
theorem dX11_keep_37 : decode cX11_keep 37 = .ok (.iaload, 1) := by decide +kernel
theorem dX11_keep_38 : decode cX11_keep 38 = .ok (.iastore, 1) := by decide +kernel
theorem dX11_keep_39 : decode cX11_keep 39 = .ok (.iinc 2 1, 3) := by decide +kernel
theorem dX11_keep_42 : decode cX11_keep 42 = .ok (.goto (-28), 3) := by decide +kernel
theorem dX11_keep_45 : decode cX11_keep 45 = .ok (.aload_n 0, 1) := by decide +kernel
theorem dX11_keep_46 : decode cX11_keep 46 = .ok (.getfield 48, 3) := by decide +kernel
theorem dX11_keep_49 : decode cX11_keep 49 = .ok (.iconst 5, 1) := by decide +kernel
theorem dX11_keep_50 : decode cX11_keep 50 = .ok (.iload_n 1, 1) := by decide +kernel
theorem dX11_keep_51 : decode cX11_keep 51 = .ok (.imul, 1) := by decide +kernel
theorem dX11_keep_52 : decode cX11_keep 52 = .ok (.aload_n 0, 1) := by decide +kernel
theorem dX11_keep_53 : decode cX11_keep 53 = .ok (.getfield 13, 3) := by decide +kernel
theorem dX11_keep_56 : decode cX11_keep 56 = .ok (.iastore, 1) := by decide +kernel
theorem dX11_keep_57 : decode cX11_keep 57 = .ok (.aload_n 0, 1) := by decide +kernel
theorem dX11_keep_58 : decode cX11_keep 58 = .ok (.getfield 48, 3) := by decide +kernel
theorem dX11_keep_61 : decode cX11_keep 61 = .ok (.iconst 5, 1) := by decide +kernel
theorem dX11_keep_62 : decode cX11_keep 62 = .ok (.iload_n 1, 1) := by decide +kernel
theorem dX11_keep_63 : decode cX11_keep 63 = .ok (.imul, 1) := by decide +kernel
theorem dX11_keep_64 : decode cX11_keep 64 = .ok (.iconst 1, 1) := by decide +kernel
theorem dX11_keep_65 : decode cX11_keep 65 = .ok (.iadd, 1) := by decide +kernel
theorem dX11_keep_66 : decode cX11_keep 66 = .ok (.aload_n 0, 1) := by decide +kernel
theorem dX11_keep_67 : decode cX11_keep 67 = .ok (.getfield 17, 3) := by decide +kernel
theorem dX11_keep_70 : decode cX11_keep 70 = .ok (.iastore, 1) := by decide +kernel
theorem dX11_keep_71 : decode cX11_keep 71 = .ok (.aload_n 0, 1) := by decide +kernel
theorem dX11_keep_72 : decode cX11_keep 72 = .ok (.getfield 48, 3) := by decide +kernel
theorem dX11_keep_75 : decode cX11_keep 75 = .ok (.iconst 5, 1) := by decide +kernel
theorem dX11_keep_76 : decode cX11_keep 76 = .ok (.iload_n 1, 1) := by decide +kernel
theorem dX11_keep_77 : decode cX11_keep 77 = .ok (.imul, 1) := by decide +kernel
theorem dX11_keep_78 : decode cX11_keep 78 = .ok (.iconst 2, 1) := by decide +kernel
theorem dX11_keep_79 : decode cX11_keep 79 = .ok (.iadd, 1) := by decide +kernel
theorem dX11_keep_80 : decode cX11_keep 80 = .ok (.aload_n 0, 1) := by decide +kernel
theorem dX11_keep_81 : decode cX11_keep 81 = .ok (.getfield 20, 3) := by decide +kernel
theorem dX11_keep_84 : decode cX11_keep 84 = .ok (.iastore, 1) := by decide +kernel
theorem dX11_keep_85 : decode cX11_keep 85 = .ok (.aload_n 0, 1) := by decide +kernel
theorem dX11_keep_86 : decode cX11_keep 86 = .ok (.getfield 48, 3) := by decide +kernel
theorem dX11_keep_89 : decode cX11_keep 89 = .ok (.iconst 5, 1) := by decide +kernel
theorem dX11_keep_90 : decode cX11_keep 90 = .ok (.iload_n 1, 1) := by decide +kernel
theorem dX11_keep_91 : decode cX11_keep 91 = .ok (.imul, 1) := by decide +kernel
theorem dX11_keep_92 : decode cX11_keep 92 = .ok (.iconst 3, 1) := by decide +kernel
theorem dX11_keep_93 : decode cX11_keep 93 = .ok (.iadd, 1) := by decide +kernel
theorem dX11_keep_94 : decode cX11_keep 94 = .ok (.aload_n 0, 1) := by decide +kernel
theorem dX11_keep_95 : decode cX11_keep 95 = .ok (.getfield 23, 3) := by decide +kernel
theorem dX11_keep_98 : decode cX11_keep 98 = .ok (.iastore, 1) := by decide +kernel
theorem dX11_keep_99 : decode cX11_keep 99 = .ok (.aload_n 0, 1) := by decide +kernel
theorem dX11_keep_100 : decode cX11_keep 100 = .ok (.getfield 48, 3) := by decide +kernel
theorem dX11_keep_103 : decode cX11_keep 103 = .ok (.iconst 5, 1) := by decide +kernel
theorem dX11_keep_104 : decode cX11_keep 104 = .ok (.iload_n 1, 1) := by decide +kernel
theorem dX11_keep_105 : decode cX11_keep 105 = .ok (.imul, 1) := by decide +kernel
theorem dX11_keep_106 : decode cX11_keep 106 = .ok (.iconst 4, 1) := by decide +kernel
theorem dX11_keep_107 : decode cX11_keep 107 = .ok (.iadd, 1) := by decide +kernel
theorem dX11_keep_108 : decode cX11_keep 108 = .ok (.aload_n 0, 1) := by decide +kernel
theorem dX11_keep_109 : decode cX11_keep 109 = .ok (.getfield 26, 3) := by decide +kernel
theorem dX11_keep_112 : decode cX11_keep 112 = .ok (.iastore, 1) := by decide +kernel
theorem dX11_keep_113 : decode cX11_keep 113 = .ok (.aload_n 0, 1) := by decide +kernel
theorem dX11_keep_114 : decode cX11_keep 114 = .ok (.getfield 44, 3) := by decide +kernel
theorem dX11_keep_117 : decode cX11_keep 117 = .ok (.iload_n 1, 1) := by decide +kernel
theorem dX11_keep_118 : decode cX11_keep 118 = .ok (.iconst 1, 1) := by decide +kernel
theorem dX11_keep_119 : decode cX11_keep 119 = .ok (.bastore, 1) := by decide +kernel
theorem dX11_keep_120 : decode cX11_keep 120 = .ok (.iconst 1, 1) := by decide +kernel
theorem dX11_keep_121 : decode cX11_keep 121 = .ok (.ireturn, 1) := by decide +kernel
theorem dX11_back_0 : decode cX11_back 0 = .ok (.iload_n 1, 1) := by decide +kernel
theorem dX11_back_1 : decode cX11_back 1 = .ok (.i2l, 1) := by decide +kernel
theorem dX11_back_2 : decode cX11_back 2 = .ok (.lconst 0, 1) := by decide +kernel
theorem dX11_back_3 : decode cX11_back 3 = .ok (.lconst 1, 1) := by decide +kernel
theorem dX11_back_4 : decode cX11_back 4 = .ok (.invokestatic 51, 3) := by decide +kernel
theorem dX11_back_7 : decode cX11_back 7 = .ok (.ifCond .eq 12, 3) := by decide +kernel
theorem dX11_back_10 : decode cX11_back 10 = .ok (.aload_n 0, 1) := by decide +kernel
theorem dX11_back_11 : decode cX11_back 11 = .ok (.getfield 44, 3) := by decide +kernel
theorem dX11_back_14 : decode cX11_back 14 = .ok (.iload_n 1, 1) := by decide +kernel
theorem dX11_back_15 : decode cX11_back 15 = .ok (.baload, 1) := by decide +kernel
theorem dX11_back_16 : decode cX11_back 16 = .ok (.ifCond .ne 5, 3) := by decide +kernel
theorem dX11_back_19 : decode cX11_back 19 = .ok (.iconst (-1), 1) := by decide +kernel
theorem dX11_back_20 : decode cX11_back 20 = .ok (.ireturn, 1) := by decide +kernel
theorem dX11_back_21 : decode cX11_back 21 = .ok (.iconst 0, 1) := by decide +kernel
theorem dX11_back_22 : decode cX11_back 22 = .ok (.istore_n 2, 1) := by decide +kernel
theorem dX11_back_23 : decode cX11_back 23 = .ok (.iload_n 2, 1) := by decide +kernel
theorem dX11_back_24 : decode cX11_back 24 = .ok (.sipush 10511, 3) := by decide +kernel
theorem dX11_back_27 : decode cX11_back 27 = .ok (.if_icmp .ge 27, 3) := by decide +kernel
theorem dX11_back_30 : decode cX11_back 30 = .ok (.aload_n 0, 1) := by decide +kernel
theorem dX11_back_31 : decode cX11_back 31 = .ok (.getfield 7, 3) := by decide +kernel
theorem dX11_back_34 : decode cX11_back 34 = .ok (.iload_n 2, 1) := by decide +kernel
theorem dX11_back_35 : decode cX11_back 35 = .ok (.aload_n 0, 1) := by decide +kernel
theorem dX11_back_36 : decode cX11_back 36 = .ok (.getfield 41, 3) := by decide +kernel
theorem dX11_back_39 : decode cX11_back 39 = .ok (.sipush 10511, 3) := by decide +kernel
theorem dX11_back_42 : decode cX11_back 42 = .ok (.iload_n 1, 1) := by decide +kernel
theorem dX11_back_43 : decode cX11_back 43 = .ok (.imul, 1) := by decide +kernel
theorem dX11_back_44 : decode cX11_back 44 = .ok (.iload_n 2, 1) := by decide +kernel
theorem dX11_back_45 : decode cX11_back 45 = .ok (.iadd, 1) := by decide +kernel
theorem dX11_back_46 : decode cX11_back 46 = .ok (.iaload, 1) := by decide +kernel
theorem dX11_back_47 : decode cX11_back 47 = .ok (.iastore, 1) := by decide +kernel
theorem dX11_back_48 : decode cX11_back 48 = .ok (.iinc 2 1, 3) := by decide +kernel
theorem dX11_back_51 : decode cX11_back 51 = .ok (.goto (-28), 3) := by decide +kernel
theorem dX11_back_54 : decode cX11_back 54 = .ok (.aload_n 0, 1) := by decide +kernel
theorem dX11_back_55 : decode cX11_back 55 = .ok (.aload_n 0, 1) := by decide +kernel
theorem dX11_back_56 : decode cX11_back 56 = .ok (.getfield 48, 3) := by decide +kernel
theorem dX11_back_59 : decode cX11_back 59 = .ok (.iconst 5, 1) := by decide +kernel
theorem dX11_back_60 : decode cX11_back 60 = .ok (.iload_n 1, 1) := by decide +kernel
theorem dX11_back_61 : decode cX11_back 61 = .ok (.imul, 1) := by decide +kernel
theorem dX11_back_62 : decode cX11_back 62 = .ok (.iaload, 1) := by decide +kernel
theorem dX11_back_63 : decode cX11_back 63 = .ok (.putfield 13, 3) := by decide +kernel
theorem dX11_back_66 : decode cX11_back 66 = .ok (.aload_n 0, 1) := by decide +kernel
theorem dX11_back_67 : decode cX11_back 67 = .ok (.aload_n 0, 1) := by decide +kernel
theorem dX11_back_68 : decode cX11_back 68 = .ok (.getfield 48, 3) := by decide +kernel
theorem dX11_back_71 : decode cX11_back 71 = .ok (.iconst 5, 1) := by decide +kernel
theorem dX11_back_72 : decode cX11_back 72 = .ok (.iload_n 1, 1) := by decide +kernel
theorem dX11_back_73 : decode cX11_back 73 = .ok (.imul, 1) := by decide +kernel
theorem dX11_back_74 : decode cX11_back 74 = .ok (.iconst 1, 1) := by decide +kernel
theorem dX11_back_75 : decode cX11_back 75 = .ok (.iadd, 1) := by decide +kernel
theorem dX11_back_76 : decode cX11_back 76 = .ok (.iaload, 1) := by decide +kernel
theorem dX11_back_77 : decode cX11_back 77 = .ok (.putfield 17, 3) := by decide +kernel
theorem dX11_back_80 : decode cX11_back 80 = .ok (.aload_n 0, 1) := by decide +kernel
theorem dX11_back_81 : decode cX11_back 81 = .ok (.aload_n 0, 1) := by decide +kernel
theorem dX11_back_82 : decode cX11_back 82 = .ok (.getfield 48, 3) := by decide +kernel
theorem dX11_back_85 : decode cX11_back 85 = .ok (.iconst 5, 1) := by decide +kernel
theorem dX11_back_86 : decode cX11_back 86 = .ok (.iload_n 1, 1) := by decide +kernel
theorem dX11_back_87 : decode cX11_back 87 = .ok (.imul, 1) := by decide +kernel
theorem dX11_back_88 : decode cX11_back 88 = .ok (.iconst 2, 1) := by decide +kernel
theorem dX11_back_89 : decode cX11_back 89 = .ok (.iadd, 1) := by decide +kernel
theorem dX11_back_90 : decode cX11_back 90 = .ok (.iaload, 1) := by decide +kernel
theorem dX11_back_91 : decode cX11_back 91 = .ok (.putfield 20, 3) := by decide +kernel
theorem dX11_back_94 : decode cX11_back 94 = .ok (.aload_n 0, 1) := by decide +kernel
theorem dX11_back_95 : decode cX11_back 95 = .ok (.aload_n 0, 1) := by decide +kernel
theorem dX11_back_96 : decode cX11_back 96 = .ok (.getfield 48, 3) := by decide +kernel
theorem dX11_back_99 : decode cX11_back 99 = .ok (.iconst 5, 1) := by decide +kernel
theorem dX11_back_100 : decode cX11_back 100 = .ok (.iload_n 1, 1) := by decide +kernel
theorem dX11_back_101 : decode cX11_back 101 = .ok (.imul, 1) := by decide +kernel
theorem dX11_back_102 : decode cX11_back 102 = .ok (.iconst 3, 1) := by decide +kernel
theorem dX11_back_103 : decode cX11_back 103 = .ok (.iadd, 1) := by decide +kernel
theorem dX11_back_104 : decode cX11_back 104 = .ok (.iaload, 1) := by decide +kernel
theorem dX11_back_105 : decode cX11_back 105 = .ok (.putfield 23, 3) := by decide +kernel
theorem dX11_back_108 : decode cX11_back 108 = .ok (.aload_n 0, 1) := by decide +kernel
theorem dX11_back_109 : decode cX11_back 109 = .ok (.aload_n 0, 1) := by decide +kernel
theorem dX11_back_110 : decode cX11_back 110 = .ok (.getfield 48, 3) := by decide +kernel
theorem dX11_back_113 : decode cX11_back 113 = .ok (.iconst 5, 1) := by decide +kernel
theorem dX11_back_114 : decode cX11_back 114 = .ok (.iload_n 1, 1) := by decide +kernel
theorem dX11_back_115 : decode cX11_back 115 = .ok (.imul, 1) := by decide +kernel
theorem dX11_back_116 : decode cX11_back 116 = .ok (.iconst 4, 1) := by decide +kernel
theorem dX11_back_117 : decode cX11_back 117 = .ok (.iadd, 1) := by decide +kernel
theorem dX11_back_118 : decode cX11_back 118 = .ok (.iaload, 1) := by decide +kernel
theorem dX11_back_119 : decode cX11_back 119 = .ok (.putfield 26, 3) := by decide +kernel
theorem dX11_back_122 : decode cX11_back 122 = .ok (.aload_n 0, 1) := by decide +kernel
theorem dX11_back_123 : decode cX11_back 123 = .ok (.getfield 7, 3) := by decide +kernel
theorem dX11_back_126 : decode cX11_back 126 = .ok (.sipush 10505, 3) := by decide +kernel
theorem dX11_back_129 : decode cX11_back 129 = .ok (.iaload, 1) := by decide +kernel
theorem dX11_back_130 : decode cX11_back 130 = .ok (.ireturn, 1) := by decide +kernel
theorem dX11_isOther_0 : decode cX11_isOther 0 = .ok (.iconst 0, 1) := by decide +kernel
theorem dX11_isOther_1 : decode cX11_isOther 1 = .ok (.istore 4, 2) := by decide +kernel
theorem dX11_isOther_3 : decode cX11_isOther 3 = .ok (.iconst 0, 1) := by decide +kernel
theorem dX11_isOther_4 : decode cX11_isOther 4 = .ok (.istore 5, 2) := by decide +kernel
theorem dX11_isOther_6 : decode cX11_isOther 6 = .ok (.iload 5, 2) := by decide +kernel
theorem dX11_isOther_8 : decode cX11_isOther 8 = .ok (.iload_n 3, 1) := by decide +kernel
theorem dX11_isOther_9 : decode cX11_isOther 9 = .ok (.if_icmp .ge 48, 3) := by decide +kernel
theorem dX11_isOther_12 : decode cX11_isOther 12 = .ok (.iload 4, 2) := by decide +kernel
theorem dX11_isOther_14 : decode cX11_isOther 14 = .ok (.ifCond .ne 30, 3) := by decide +kernel
theorem dX11_isOther_17 : decode cX11_isOther 17 = .ok (.aload_n 0, 1) := by decide +kernel
theorem dX11_isOther_18 : decode cX11_isOther 18 = .ok (.getfield 7, 3) := by decide +kernel
theorem dX11_isOther_21 : decode cX11_isOther 21 = .ok (.iload_n 2, 1) := by decide +kernel
theorem dX11_isOther_22 : decode cX11_isOther 22 = .ok (.iload 5, 2) := by decide +kernel
theorem dX11_isOther_24 : decode cX11_isOther 24 = .ok (.iadd, 1) := by decide +kernel
theorem dX11_isOther_25 : decode cX11_isOther 25 = .ok (.iaload, 1) := by decide +kernel
theorem dX11_isOther_26 : decode cX11_isOther 26 = .ok (.aload_n 0, 1) := by decide +kernel
theorem dX11_isOther_27 : decode cX11_isOther 27 = .ok (.getfield 41, 3) := by decide +kernel
theorem dX11_isOther_30 : decode cX11_isOther 30 = .ok (.sipush 10511, 3) := by decide +kernel
theorem dX11_isOther_33 : decode cX11_isOther 33 = .ok (.iload_n 1, 1) := by decide +kernel
theorem dX11_isOther_34 : decode cX11_isOther 34 = .ok (.imul, 1) := by decide +kernel
theorem dX11_isOther_35 : decode cX11_isOther 35 = .ok (.iload_n 2, 1) := by decide +kernel
theorem dX11_isOther_36 : decode cX11_isOther 36 = .ok (.iadd, 1) := by decide +kernel
theorem dX11_isOther_37 : decode cX11_isOther 37 = .ok (.iload 5, 2) := by decide +kernel
theorem dX11_isOther_39 : decode cX11_isOther 39 = .ok (.iadd, 1) := by decide +kernel
theorem dX11_isOther_40 : decode cX11_isOther 40 = .ok (.iaload, 1) := by decide +kernel
theorem dX11_isOther_41 : decode cX11_isOther 41 = .ok (.if_icmp .eq 7, 3) := by decide +kernel
theorem dX11_isOther_44 : decode cX11_isOther 44 = .ok (.iconst 1, 1) := by decide +kernel
theorem dX11_isOther_45 : decode cX11_isOther 45 = .ok (.goto 4, 3) := by decide +kernel
theorem dX11_isOther_48 : decode cX11_isOther 48 = .ok (.iconst 0, 1) := by decide +kernel
theorem dX11_isOther_49 : decode cX11_isOther 49 = .ok (.istore 4, 2) := by decide +kernel
theorem dX11_isOther_51 : decode cX11_isOther 51 = .ok (.iinc 5 1, 3) := by decide +kernel
theorem dX11_isOther_54 : decode cX11_isOther 54 = .ok (.goto (-48), 3) := by decide +kernel
theorem dX11_isOther_57 : decode cX11_isOther 57 = .ok (.iload 4, 2) := by decide +kernel
theorem dX11_isOther_59 : decode cX11_isOther 59 = .ok (.ireturn, 1) := by decide +kernel
theorem dX11_differs_0 : decode cX11_differs 0 = .ok (.iload_n 1, 1) := by decide +kernel
theorem dX11_differs_1 : decode cX11_differs 1 = .ok (.i2l, 1) := by decide +kernel
theorem dX11_differs_2 : decode cX11_differs 2 = .ok (.lconst 0, 1) := by decide +kernel
theorem dX11_differs_3 : decode cX11_differs 3 = .ok (.lconst 1, 1) := by decide +kernel
theorem dX11_differs_4 : decode cX11_differs 4 = .ok (.invokestatic 51, 3) := by decide +kernel
theorem dX11_differs_7 : decode cX11_differs 7 = .ok (.ifCond .eq 12, 3) := by decide +kernel
theorem dX11_differs_10 : decode cX11_differs 10 = .ok (.aload_n 0, 1) := by decide +kernel
theorem dX11_differs_11 : decode cX11_differs 11 = .ok (.getfield 44, 3) := by decide +kernel
theorem dX11_differs_14 : decode cX11_differs 14 = .ok (.iload_n 1, 1) := by decide +kernel
theorem dX11_differs_15 : decode cX11_differs 15 = .ok (.baload, 1) := by decide +kernel
theorem dX11_differs_16 : decode cX11_differs 16 = .ok (.ifCond .ne 5, 3) := by decide +kernel
theorem dX11_differs_19 : decode cX11_differs 19 = .ok (.iconst (-1), 1) := by decide +kernel
theorem dX11_differs_20 : decode cX11_differs 20 = .ok (.ireturn, 1) := by decide +kernel
theorem dX11_differs_21 : decode cX11_differs 21 = .ok (.aload_n 0, 1) := by decide +kernel
theorem dX11_differs_22 : decode cX11_differs 22 = .ok (.getfield 41, 3) := by decide +kernel
theorem dX11_differs_25 : decode cX11_differs 25 = .ok (.sipush 10511, 3) := by decide +kernel
theorem dX11_differs_28 : decode cX11_differs 28 = .ok (.iload_n 1, 1) := by decide +kernel
theorem dX11_differs_29 : decode cX11_differs 29 = .ok (.imul, 1) := by decide +kernel
theorem dX11_differs_30 : decode cX11_differs 30 = .ok (.sipush 10505, 3) := by decide +kernel
theorem dX11_differs_33 : decode cX11_differs 33 = .ok (.iadd, 1) := by decide +kernel
theorem dX11_differs_34 : decode cX11_differs 34 = .ok (.iaload, 1) := by decide +kernel
theorem dX11_differs_35 : decode cX11_differs 35 = .ok (.istore_n 2, 1) := by decide +kernel
theorem dX11_differs_36 : decode cX11_differs 36 = .ok (.iconst 0, 1) := by decide +kernel
theorem dX11_differs_37 : decode cX11_differs 37 = .ok (.istore_n 3, 1) := by decide +kernel
theorem dX11_differs_38 : decode cX11_differs 38 = .ok (.iload_n 3, 1) := by decide +kernel
theorem dX11_differs_39 : decode cX11_differs 39 = .ok (.bipush 16, 2) := by decide +kernel
theorem dX11_differs_41 : decode cX11_differs 41 = .ok (.if_icmp .ge 163, 3) := by decide +kernel
theorem dX11_differs_44 : decode cX11_differs 44 = .ok (.iload_n 3, 1) := by decide +kernel
theorem dX11_differs_45 : decode cX11_differs 45 = .ok (.aload_n 0, 1) := by decide +kernel
theorem dX11_differs_46 : decode cX11_differs 46 = .ok (.getfield 7, 3) := by decide +kernel
theorem dX11_differs_49 : decode cX11_differs 49 = .ok (.sipush 10505, 3) := by decide +kernel
theorem dX11_differs_52 : decode cX11_differs 52 = .ok (.iaload, 1) := by decide +kernel
theorem dX11_differs_53 : decode cX11_differs 53 = .ok (.if_icmp .ge 7, 3) := by decide +kernel
theorem dX11_differs_56 : decode cX11_differs 56 = .ok (.iconst 1, 1) := by decide +kernel
theorem dX11_differs_57 : decode cX11_differs 57 = .ok (.goto 4, 3) := by decide +kernel
theorem dX11_differs_60 : decode cX11_differs 60 = .ok (.iconst 0, 1) := by decide +kernel
theorem dX11_differs_61 : decode cX11_differs 61 = .ok (.istore 4, 2) := by decide +kernel
theorem dX11_differs_63 : decode cX11_differs 63 = .ok (.iload_n 3, 1) := by decide +kernel
theorem dX11_differs_64 : decode cX11_differs 64 = .ok (.iload_n 2, 1) := by decide +kernel
theorem dX11_differs_65 : decode cX11_differs 65 = .ok (.if_icmp .ge 7, 3) := by decide +kernel
theorem dX11_differs_68 : decode cX11_differs 68 = .ok (.iconst 1, 1) := by decide +kernel
theorem dX11_differs_69 : decode cX11_differs 69 = .ok (.goto 4, 3) := by decide +kernel
theorem dX11_differs_72 : decode cX11_differs 72 = .ok (.iconst 0, 1) := by decide +kernel
theorem dX11_differs_73 : decode cX11_differs 73 = .ok (.istore 5, 2) := by decide +kernel
theorem dX11_differs_75 : decode cX11_differs 75 = .ok (.iload 4, 2) := by decide +kernel
theorem dX11_differs_77 : decode cX11_differs 77 = .ok (.iload 5, 2) := by decide +kernel
theorem dX11_differs_79 : decode cX11_differs 79 = .ok (.if_icmp .eq 5, 3) := by decide +kernel
theorem dX11_differs_82 : decode cX11_differs 82 = .ok (.iload_n 3, 1) := by decide +kernel
theorem dX11_differs_83 : decode cX11_differs 83 = .ok (.ireturn, 1) := by decide +kernel
theorem dX11_differs_84 : decode cX11_differs 84 = .ok (.iload 4, 2) := by decide +kernel
theorem dX11_differs_86 : decode cX11_differs 86 = .ok (.ifCond .eq 112, 3) := by decide +kernel
theorem dX11_differs_89 : decode cX11_differs 89 = .ok (.aload_n 0, 1) := by decide +kernel
theorem dX11_differs_90 : decode cX11_differs 90 = .ok (.iload_n 1, 1) := by decide +kernel
theorem dX11_differs_91 : decode cX11_differs 91 = .ok (.bipush 16, 2) := by decide +kernel
theorem dX11_differs_93 : decode cX11_differs 93 = .ok (.iload_n 3, 1) := by decide +kernel
theorem dX11_differs_94 : decode cX11_differs 94 = .ok (.iadd, 1) := by decide +kernel
theorem dX11_differs_95 : decode cX11_differs 95 = .ok (.iconst 1, 1) := by decide +kernel
theorem dX11_differs_96 : decode cX11_differs 96 = .ok (.invokevirtual 182, 3) := by decide +kernel
theorem dX11_differs_99 : decode cX11_differs 99 = .ok (.ifCond .ne 97, 3) := by decide +kernel
theorem dX11_differs_102 : decode cX11_differs 102 = .ok (.aload_n 0, 1) := by decide +kernel
theorem dX11_differs_103 : decode cX11_differs 103 = .ok (.iload_n 1, 1) := by decide +kernel
theorem dX11_differs_104 : decode cX11_differs 104 = .ok (.bipush 32, 2) := by decide +kernel
theorem dX11_differs_106 : decode cX11_differs 106 = .ok (.iload_n 3, 1) := by decide +kernel
theorem dX11_differs_107 : decode cX11_differs 107 = .ok (.iadd, 1) := by decide +kernel
theorem dX11_differs_108 : decode cX11_differs 108 = .ok (.iconst 1, 1) := by decide +kernel
theorem dX11_differs_109 : decode cX11_differs 109 = .ok (.invokevirtual 182, 3) := by decide +kernel
theorem dX11_differs_112 : decode cX11_differs 112 = .ok (.ifCond .ne 84, 3) := by decide +kernel
theorem dX11_differs_115 : decode cX11_differs 115 = .ok (.aload_n 0, 1) := by decide +kernel
theorem dX11_differs_116 : decode cX11_differs 116 = .ok (.iload_n 1, 1) := by decide +kernel
theorem dX11_differs_117 : decode cX11_differs 117 = .ok (.bipush 96, 2) := by decide +kernel
theorem dX11_differs_119 : decode cX11_differs 119 = .ok (.iconst 5, 1) := by decide +kernel
theorem dX11_differs_120 : decode cX11_differs 120 = .ok (.iload_n 3, 1) := by decide +kernel
theorem dX11_differs_121 : decode cX11_differs 121 = .ok (.imul, 1) := by decide +kernel
theorem dX11_differs_122 : decode cX11_differs 122 = .ok (.iadd, 1) := by decide +kernel
theorem dX11_differs_123 : decode cX11_differs 123 = .ok (.aload_n 0, 1) := by decide +kernel
theorem dX11_differs_124 : decode cX11_differs 124 = .ok (.getfield 7, 3) := by decide +kernel
theorem dX11_differs_127 : decode cX11_differs 127 = .ok (.bipush 16, 2) := by decide +kernel
theorem dX11_differs_129 : decode cX11_differs 129 = .ok (.iload_n 3, 1) := by decide +kernel
theorem dX11_differs_130 : decode cX11_differs 130 = .ok (.iadd, 1) := by decide +kernel
theorem dX11_differs_131 : decode cX11_differs 131 = .ok (.iaload, 1) := by decide +kernel
theorem dX11_differs_132 : decode cX11_differs 132 = .ok (.invokevirtual 182, 3) := by decide +kernel
theorem dX11_differs_135 : decode cX11_differs 135 = .ok (.ifCond .ne 61, 3) := by decide +kernel
theorem dX11_differs_138 : decode cX11_differs 138 = .ok (.aload_n 0, 1) := by decide +kernel
theorem dX11_differs_139 : decode cX11_differs 139 = .ok (.iload_n 1, 1) := by decide +kernel
theorem dX11_differs_140 : decode cX11_differs 140 = .ok (.sipush 176, 3) := by decide +kernel
theorem dX11_differs_143 : decode cX11_differs 143 = .ok (.iconst 5, 1) := by decide +kernel
theorem dX11_differs_144 : decode cX11_differs 144 = .ok (.iload_n 3, 1) := by decide +kernel
theorem dX11_differs_145 : decode cX11_differs 145 = .ok (.imul, 1) := by decide +kernel
theorem dX11_differs_146 : decode cX11_differs 146 = .ok (.iadd, 1) := by decide +kernel
theorem dX11_differs_147 : decode cX11_differs 147 = .ok (.aload_n 0, 1) := by decide +kernel
theorem dX11_differs_148 : decode cX11_differs 148 = .ok (.getfield 7, 3) := by decide +kernel
theorem dX11_differs_151 : decode cX11_differs 151 = .ok (.bipush 16, 2) := by decide +kernel
theorem dX11_differs_153 : decode cX11_differs 153 = .ok (.iload_n 3, 1) := by decide +kernel
theorem dX11_differs_154 : decode cX11_differs 154 = .ok (.iadd, 1) := by decide +kernel
theorem dX11_differs_155 : decode cX11_differs 155 = .ok (.iaload, 1) := by decide +kernel
theorem dX11_differs_156 : decode cX11_differs 156 = .ok (.invokevirtual 182, 3) := by decide +kernel
theorem dX11_differs_159 : decode cX11_differs 159 = .ok (.ifCond .ne 37, 3) := by decide +kernel
theorem dX11_differs_162 : decode cX11_differs 162 = .ok (.aload_n 0, 1) := by decide +kernel
theorem dX11_differs_163 : decode cX11_differs 163 = .ok (.iload_n 1, 1) := by decide +kernel
theorem dX11_differs_164 : decode cX11_differs 164 = .ok (.sipush 256, 3) := by decide +kernel
theorem dX11_differs_167 : decode cX11_differs 167 = .ok (.bipush 8, 2) := by decide +kernel
theorem dX11_differs_169 : decode cX11_differs 169 = .ok (.iload_n 3, 1) := by decide +kernel
theorem dX11_differs_170 : decode cX11_differs 170 = .ok (.imul, 1) := by decide +kernel
theorem dX11_differs_171 : decode cX11_differs 171 = .ok (.iadd, 1) := by decide +kernel
theorem dX11_differs_172 : decode cX11_differs 172 = .ok (.aload_n 0, 1) := by decide +kernel
theorem dX11_differs_173 : decode cX11_differs 173 = .ok (.getfield 7, 3) := by decide +kernel
theorem dX11_differs_176 : decode cX11_differs 176 = .ok (.bipush 32, 2) := by decide +kernel
theorem dX11_differs_178 : decode cX11_differs 178 = .ok (.iload_n 3, 1) := by decide +kernel
theorem dX11_differs_179 : decode cX11_differs 179 = .ok (.iadd, 1) := by decide +kernel
theorem dX11_differs_180 : decode cX11_differs 180 = .ok (.iaload, 1) := by decide +kernel
theorem dX11_differs_181 : decode cX11_differs 181 = .ok (.invokevirtual 182, 3) := by decide +kernel
theorem dX11_differs_184 : decode cX11_differs 184 = .ok (.ifCond .ne 12, 3) := by decide +kernel
theorem dX11_differs_187 : decode cX11_differs 187 = .ok (.aload_n 0, 1) := by decide +kernel
theorem dX11_differs_188 : decode cX11_differs 188 = .ok (.iload_n 1, 1) := by decide +kernel
theorem dX11_differs_189 : decode cX11_differs 189 = .ok (.iload_n 3, 1) := by decide +kernel
theorem dX11_differs_190 : decode cX11_differs 190 = .ok (.invokevirtual 186, 3) := by decide +kernel
theorem dX11_differs_193 : decode cX11_differs 193 = .ok (.ifCond .eq 5, 3) := by decide +kernel
theorem dX11_differs_196 : decode cX11_differs 196 = .ok (.iload_n 3, 1) := by decide +kernel
theorem dX11_differs_197 : decode cX11_differs 197 = .ok (.ireturn, 1) := by decide +kernel
theorem dX11_differs_198 : decode cX11_differs 198 = .ok (.iinc 3 1, 3) := by decide +kernel
theorem dX11_differs_201 : decode cX11_differs 201 = .ok (.goto (-163), 3) := by decide +kernel
theorem dX11_differs_204 : decode cX11_differs 204 = .ok (.bipush (-6), 2) := by decide +kernel
theorem dX11_differs_206 : decode cX11_differs 206 = .ok (.ireturn, 1) := by decide +kernel
theorem dX11_heardOther_0 : decode cX11_heardOther 0 = .ok (.aload_n 0, 1) := by decide +kernel
theorem dX11_heardOther_1 : decode cX11_heardOther 1 = .ok (.iload_n 1, 1) := by decide +kernel
theorem dX11_heardOther_2 : decode cX11_heardOther 2 = .ok (.sipush 384, 3) := by decide +kernel
theorem dX11_heardOther_5 : decode cX11_heardOther 5 = .ok (.bipush 24, 2) := by decide +kernel
theorem dX11_heardOther_7 : decode cX11_heardOther 7 = .ok (.iload_n 2, 1) := by decide +kernel
theorem dX11_heardOther_8 : decode cX11_heardOther 8 = .ok (.imul, 1) := by decide +kernel
theorem dX11_heardOther_9 : decode cX11_heardOther 9 = .ok (.iadd, 1) := by decide +kernel
theorem dX11_heardOther_10 : decode cX11_heardOther 10 = .ok (.bipush 24, 2) := by decide +kernel
theorem dX11_heardOther_12 : decode cX11_heardOther 12 = .ok (.invokevirtual 182, 3) := by decide +kernel
theorem dX11_heardOther_15 : decode cX11_heardOther 15 = .ok (.ireturn, 1) := by decide +kernel
theorem dL_law_0 : decode cL_law 0 = .ok (.new 7, 3) := by decide +kernel
theorem dL_law_3 : decode cL_law 3 = .ok (.dup, 1) := by decide +kernel
theorem dL_law_4 : decode cL_law 4 = .ok (.invokespecial 9, 3) := by decide +kernel
theorem dL_law_7 : decode cL_law 7 = .ok (.astore_n 1, 1) := by decide +kernel
theorem dL_law_8 : decode cL_law 8 = .ok (.new 10, 3) := by decide +kernel
theorem dL_law_11 : decode cL_law 11 = .ok (.dup, 1) := by decide +kernel
theorem dL_law_12 : decode cL_law 12 = .ok (.invokespecial 12, 3) := by decide +kernel
theorem dL_law_15 : decode cL_law 15 = .ok (.astore_n 2, 1) := by decide +kernel
theorem dL_law_16 : decode cL_law 16 = .ok (.iconst 0, 1) := by decide +kernel
theorem dL_law_17 : decode cL_law 17 = .ok (.istore_n 3, 1) := by decide +kernel
theorem dL_law_18 : decode cL_law 18 = .ok (.iload_n 3, 1) := by decide +kernel
theorem dL_law_19 : decode cL_law 19 = .ok (.aload_n 0, 1) := by decide +kernel
theorem dL_law_20 : decode cL_law 20 = .ok (.arraylength, 1) := by decide +kernel
theorem dL_law_21 : decode cL_law 21 = .ok (.iconst 4, 1) := by decide +kernel
theorem dL_law_22 : decode cL_law 22 = .ok (.isub, 1) := by decide +kernel
theorem dL_law_23 : decode cL_law 23 = .ok (.if_icmp .gt 786, 3) := by decide +kernel
theorem dL_law_26 : decode cL_law 26 = .ok (.aload_n 0, 1) := by decide +kernel
theorem dL_law_27 : decode cL_law 27 = .ok (.iload_n 3, 1) := by decide +kernel
theorem dL_law_28 : decode cL_law 28 = .ok (.iaload, 1) := by decide +kernel
theorem dL_law_29 : decode cL_law 29 = .ok (.bipush 31, 2) := by decide +kernel
theorem dL_law_31 : decode cL_law 31 = .ok (.iand, 1) := by decide +kernel
theorem dL_law_32 : decode cL_law 32 = .ok (.tableswitch 771 0 24 #[116, 149, 192, 215, 228, 261, 284, 307, 330, 343, 366, 389, 432, 465, 498, 531, 564, 597, 610, 633, 656, 679, 702, 725, 748], 116) := by decide +kernel
theorem dL_law_148 : decode cL_law 148 = .ok (.aload_n 1, 1) := by decide +kernel
theorem dL_law_149 : decode cL_law 149 = .ok (.aload_n 0, 1) := by decide +kernel
theorem dL_law_150 : decode cL_law 150 = .ok (.iload_n 3, 1) := by decide +kernel
theorem dL_law_151 : decode cL_law 151 = .ok (.iconst 1, 1) := by decide +kernel
theorem dL_law_152 : decode cL_law 152 = .ok (.iadd, 1) := by decide +kernel
theorem dL_law_153 : decode cL_law 153 = .ok (.iaload, 1) := by decide +kernel
theorem dL_law_154 : decode cL_law 154 = .ok (.aload_n 0, 1) := by decide +kernel
theorem dL_law_155 : decode cL_law 155 = .ok (.iload_n 3, 1) := by decide +kernel
theorem dL_law_156 : decode cL_law 156 = .ok (.iconst 2, 1) := by decide +kernel
theorem dL_law_157 : decode cL_law 157 = .ok (.iadd, 1) := by decide +kernel
theorem dL_law_158 : decode cL_law 158 = .ok (.iaload, 1) := by decide +kernel
theorem dL_law_159 : decode cL_law 159 = .ok (.invokevirtual 13, 3) := by decide +kernel
theorem dL_law_162 : decode cL_law 162 = .ok (.aload_n 2, 1) := by decide +kernel
theorem dL_law_163 : decode cL_law 163 = .ok (.aload_n 0, 1) := by decide +kernel
theorem dL_law_164 : decode cL_law 164 = .ok (.iload_n 3, 1) := by decide +kernel
theorem dL_law_165 : decode cL_law 165 = .ok (.iconst 1, 1) := by decide +kernel
theorem dL_law_166 : decode cL_law 166 = .ok (.iadd, 1) := by decide +kernel
theorem dL_law_167 : decode cL_law 167 = .ok (.iaload, 1) := by decide +kernel
theorem dL_law_168 : decode cL_law 168 = .ok (.aload_n 0, 1) := by decide +kernel
theorem dL_law_169 : decode cL_law 169 = .ok (.iload_n 3, 1) := by decide +kernel
theorem dL_law_170 : decode cL_law 170 = .ok (.iconst 2, 1) := by decide +kernel
theorem dL_law_171 : decode cL_law 171 = .ok (.iadd, 1) := by decide +kernel
theorem dL_law_172 : decode cL_law 172 = .ok (.iaload, 1) := by decide +kernel
theorem dL_law_173 : decode cL_law 173 = .ok (.invokevirtual 17, 3) := by decide +kernel
theorem dL_law_176 : decode cL_law 176 = .ok (.if_icmp .eq 627, 3) := by decide +kernel
theorem dL_law_179 : decode cL_law 179 = .ok (.iconst 0, 1) := by decide +kernel
theorem dL_law_180 : decode cL_law 180 = .ok (.ireturn, 1) := by decide +kernel
theorem dL_law_181 : decode cL_law 181 = .ok (.aload_n 1, 1) := by decide +kernel
theorem dL_law_182 : decode cL_law 182 = .ok (.aload_n 0, 1) := by decide +kernel
theorem dL_law_183 : decode cL_law 183 = .ok (.iload_n 3, 1) := by decide +kernel
theorem dL_law_184 : decode cL_law 184 = .ok (.iconst 1, 1) := by decide +kernel
theorem dL_law_185 : decode cL_law 185 = .ok (.iadd, 1) := by decide +kernel
theorem dL_law_186 : decode cL_law 186 = .ok (.iaload, 1) := by decide +kernel
theorem dL_law_187 : decode cL_law 187 = .ok (.aload_n 0, 1) := by decide +kernel
theorem dL_law_188 : decode cL_law 188 = .ok (.iload_n 3, 1) := by decide +kernel
theorem dL_law_189 : decode cL_law 189 = .ok (.iconst 2, 1) := by decide +kernel
theorem dL_law_190 : decode cL_law 190 = .ok (.iadd, 1) := by decide +kernel
theorem dL_law_191 : decode cL_law 191 = .ok (.iaload, 1) := by decide +kernel
theorem dL_law_192 : decode cL_law 192 = .ok (.aload_n 0, 1) := by decide +kernel
theorem dL_law_193 : decode cL_law 193 = .ok (.iload_n 3, 1) := by decide +kernel
theorem dL_law_194 : decode cL_law 194 = .ok (.iconst 3, 1) := by decide +kernel
theorem dL_law_195 : decode cL_law 195 = .ok (.iadd, 1) := by decide +kernel
theorem dL_law_196 : decode cL_law 196 = .ok (.iaload, 1) := by decide +kernel
theorem dL_law_197 : decode cL_law 197 = .ok (.invokevirtual 18, 3) := by decide +kernel
theorem dL_law_200 : decode cL_law 200 = .ok (.aload_n 2, 1) := by decide +kernel
theorem dL_law_201 : decode cL_law 201 = .ok (.aload_n 0, 1) := by decide +kernel
theorem dL_law_202 : decode cL_law 202 = .ok (.iload_n 3, 1) := by decide +kernel
theorem dL_law_203 : decode cL_law 203 = .ok (.iconst 1, 1) := by decide +kernel
theorem dL_law_204 : decode cL_law 204 = .ok (.iadd, 1) := by decide +kernel
theorem dL_law_205 : decode cL_law 205 = .ok (.iaload, 1) := by decide +kernel
theorem dL_law_206 : decode cL_law 206 = .ok (.aload_n 0, 1) := by decide +kernel
theorem dL_law_207 : decode cL_law 207 = .ok (.iload_n 3, 1) := by decide +kernel
theorem dL_law_208 : decode cL_law 208 = .ok (.iconst 2, 1) := by decide +kernel
theorem dL_law_209 : decode cL_law 209 = .ok (.iadd, 1) := by decide +kernel
theorem dL_law_210 : decode cL_law 210 = .ok (.iaload, 1) := by decide +kernel
theorem dL_law_211 : decode cL_law 211 = .ok (.aload_n 0, 1) := by decide +kernel
theorem dL_law_212 : decode cL_law 212 = .ok (.iload_n 3, 1) := by decide +kernel
theorem dL_law_213 : decode cL_law 213 = .ok (.iconst 3, 1) := by decide +kernel
theorem dL_law_214 : decode cL_law 214 = .ok (.iadd, 1) := by decide +kernel
theorem dL_law_215 : decode cL_law 215 = .ok (.iaload, 1) := by decide +kernel
theorem dL_law_216 : decode cL_law 216 = .ok (.invokevirtual 22, 3) := by decide +kernel
theorem dL_law_219 : decode cL_law 219 = .ok (.if_icmp .eq 584, 3) := by decide +kernel
theorem dL_law_222 : decode cL_law 222 = .ok (.iconst 0, 1) := by decide +kernel
theorem dL_law_223 : decode cL_law 223 = .ok (.ireturn, 1) := by decide +kernel
theorem dL_law_224 : decode cL_law 224 = .ok (.aload_n 1, 1) := by decide +kernel
theorem dL_law_225 : decode cL_law 225 = .ok (.aload_n 0, 1) := by decide +kernel
theorem dL_law_226 : decode cL_law 226 = .ok (.iload_n 3, 1) := by decide +kernel
theorem dL_law_227 : decode cL_law 227 = .ok (.iconst 1, 1) := by decide +kernel
theorem dL_law_228 : decode cL_law 228 = .ok (.iadd, 1) := by decide +kernel
theorem dL_law_229 : decode cL_law 229 = .ok (.iaload, 1) := by decide +kernel
theorem dL_law_230 : decode cL_law 230 = .ok (.invokevirtual 23, 3) := by decide +kernel
theorem dL_law_233 : decode cL_law 233 = .ok (.aload_n 2, 1) := by decide +kernel
theorem dL_law_234 : decode cL_law 234 = .ok (.aload_n 0, 1) := by decide +kernel
theorem dL_law_235 : decode cL_law 235 = .ok (.iload_n 3, 1) := by decide +kernel
theorem dL_law_236 : decode cL_law 236 = .ok (.iconst 1, 1) := by decide +kernel
theorem dL_law_237 : decode cL_law 237 = .ok (.iadd, 1) := by decide +kernel
theorem dL_law_238 : decode cL_law 238 = .ok (.iaload, 1) := by decide +kernel
theorem dL_law_239 : decode cL_law 239 = .ok (.invokevirtual 27, 3) := by decide +kernel
theorem dL_law_242 : decode cL_law 242 = .ok (.if_icmp .eq 561, 3) := by decide +kernel
theorem dL_law_245 : decode cL_law 245 = .ok (.iconst 0, 1) := by decide +kernel
theorem dL_law_246 : decode cL_law 246 = .ok (.ireturn, 1) := by decide +kernel
theorem dL_law_247 : decode cL_law 247 = .ok (.aload_n 1, 1) := by decide +kernel
theorem dL_law_248 : decode cL_law 248 = .ok (.invokevirtual 28, 3) := by decide +kernel
theorem dL_law_251 : decode cL_law 251 = .ok (.aload_n 2, 1) := by decide +kernel
theorem dL_law_252 : decode cL_law 252 = .ok (.invokevirtual 32, 3) := by decide +kernel
theorem dL_law_255 : decode cL_law 255 = .ok (.if_icmp .eq 548, 3) := by decide +kernel
theorem dL_law_258 : decode cL_law 258 = .ok (.iconst 0, 1) := by decide +kernel
theorem dL_law_259 : decode cL_law 259 = .ok (.ireturn, 1) := by decide +kernel
theorem dL_law_260 : decode cL_law 260 = .ok (.aload_n 1, 1) := by decide +kernel
theorem dL_law_261 : decode cL_law 261 = .ok (.aload_n 0, 1) := by decide +kernel
theorem dL_law_262 : decode cL_law 262 = .ok (.iload_n 3, 1) := by decide +kernel
theorem dL_law_263 : decode cL_law 263 = .ok (.iconst 1, 1) := by decide +kernel
theorem dL_law_264 : decode cL_law 264 = .ok (.iadd, 1) := by decide +kernel
theorem dL_law_265 : decode cL_law 265 = .ok (.iaload, 1) := by decide +kernel
theorem dL_law_266 : decode cL_law 266 = .ok (.aload_n 0, 1) := by decide +kernel
theorem dL_law_267 : decode cL_law 267 = .ok (.iload_n 3, 1) := by decide +kernel
theorem dL_law_268 : decode cL_law 268 = .ok (.iconst 2, 1) := by decide +kernel
theorem dL_law_269 : decode cL_law 269 = .ok (.iadd, 1) := by decide +kernel
theorem dL_law_270 : decode cL_law 270 = .ok (.iaload, 1) := by decide +kernel
theorem dL_law_271 : decode cL_law 271 = .ok (.invokevirtual 33, 3) := by decide +kernel
theorem dL_law_274 : decode cL_law 274 = .ok (.aload_n 2, 1) := by decide +kernel
theorem dL_law_275 : decode cL_law 275 = .ok (.aload_n 0, 1) := by decide +kernel
theorem dL_law_276 : decode cL_law 276 = .ok (.iload_n 3, 1) := by decide +kernel
theorem dL_law_277 : decode cL_law 277 = .ok (.iconst 1, 1) := by decide +kernel
theorem dL_law_278 : decode cL_law 278 = .ok (.iadd, 1) := by decide +kernel
theorem dL_law_279 : decode cL_law 279 = .ok (.iaload, 1) := by decide +kernel
theorem dL_law_280 : decode cL_law 280 = .ok (.aload_n 0, 1) := by decide +kernel
theorem dL_law_281 : decode cL_law 281 = .ok (.iload_n 3, 1) := by decide +kernel
theorem dL_law_282 : decode cL_law 282 = .ok (.iconst 2, 1) := by decide +kernel
theorem dL_law_283 : decode cL_law 283 = .ok (.iadd, 1) := by decide +kernel
theorem dL_law_284 : decode cL_law 284 = .ok (.iaload, 1) := by decide +kernel
theorem dL_law_285 : decode cL_law 285 = .ok (.invokevirtual 36, 3) := by decide +kernel
theorem dL_law_288 : decode cL_law 288 = .ok (.if_icmp .eq 515, 3) := by decide +kernel
theorem dL_law_291 : decode cL_law 291 = .ok (.iconst 0, 1) := by decide +kernel
theorem dL_law_292 : decode cL_law 292 = .ok (.ireturn, 1) := by decide +kernel
theorem dL_law_293 : decode cL_law 293 = .ok (.aload_n 1, 1) := by decide +kernel
theorem dL_law_294 : decode cL_law 294 = .ok (.aload_n 0, 1) := by decide +kernel
theorem dL_law_295 : decode cL_law 295 = .ok (.iload_n 3, 1) := by decide +kernel
theorem dL_law_296 : decode cL_law 296 = .ok (.iconst 1, 1) := by decide +kernel
theorem dL_law_297 : decode cL_law 297 = .ok (.iadd, 1) := by decide +kernel
theorem dL_law_298 : decode cL_law 298 = .ok (.iaload, 1) := by decide +kernel
theorem dL_law_299 : decode cL_law 299 = .ok (.invokevirtual 37, 3) := by decide +kernel
theorem dL_law_302 : decode cL_law 302 = .ok (.aload_n 2, 1) := by decide +kernel
theorem dL_law_303 : decode cL_law 303 = .ok (.aload_n 0, 1) := by decide +kernel
theorem dL_law_304 : decode cL_law 304 = .ok (.iload_n 3, 1) := by decide +kernel
theorem dL_law_305 : decode cL_law 305 = .ok (.iconst 1, 1) := by decide +kernel
theorem dL_law_306 : decode cL_law 306 = .ok (.iadd, 1) := by decide +kernel
theorem dL_law_307 : decode cL_law 307 = .ok (.iaload, 1) := by decide +kernel
theorem dL_law_308 : decode cL_law 308 = .ok (.invokevirtual 40, 3) := by decide +kernel
theorem dL_law_311 : decode cL_law 311 = .ok (.if_icmp .eq 492, 3) := by decide +kernel
theorem dL_law_314 : decode cL_law 314 = .ok (.iconst 0, 1) := by decide +kernel
theorem dL_law_315 : decode cL_law 315 = .ok (.ireturn, 1) := by decide +kernel
theorem dL_law_316 : decode cL_law 316 = .ok (.aload_n 1, 1) := by decide +kernel
theorem dL_law_317 : decode cL_law 317 = .ok (.aload_n 0, 1) := by decide +kernel
theorem dL_law_318 : decode cL_law 318 = .ok (.iload_n 3, 1) := by decide +kernel
theorem dL_law_319 : decode cL_law 319 = .ok (.iconst 1, 1) := by decide +kernel
theorem dL_law_320 : decode cL_law 320 = .ok (.iadd, 1) := by decide +kernel
theorem dL_law_321 : decode cL_law 321 = .ok (.iaload, 1) := by decide +kernel
theorem dL_law_322 : decode cL_law 322 = .ok (.invokevirtual 41, 3) := by decide +kernel
theorem dL_law_325 : decode cL_law 325 = .ok (.aload_n 2, 1) := by decide +kernel
theorem dL_law_326 : decode cL_law 326 = .ok (.aload_n 0, 1) := by decide +kernel
theorem dL_law_327 : decode cL_law 327 = .ok (.iload_n 3, 1) := by decide +kernel
theorem dL_law_328 : decode cL_law 328 = .ok (.iconst 1, 1) := by decide +kernel
theorem dL_law_329 : decode cL_law 329 = .ok (.iadd, 1) := by decide +kernel
theorem dL_law_330 : decode cL_law 330 = .ok (.iaload, 1) := by decide +kernel
theorem dL_law_331 : decode cL_law 331 = .ok (.invokevirtual 44, 3) := by decide +kernel
theorem dL_law_334 : decode cL_law 334 = .ok (.if_icmp .eq 469, 3) := by decide +kernel
theorem dL_law_337 : decode cL_law 337 = .ok (.iconst 0, 1) := by decide +kernel
theorem dL_law_338 : decode cL_law 338 = .ok (.ireturn, 1) := by decide +kernel
theorem dL_law_339 : decode cL_law 339 = .ok (.aload_n 1, 1) := by decide +kernel
theorem dL_law_340 : decode cL_law 340 = .ok (.aload_n 0, 1) := by decide +kernel
theorem dL_law_341 : decode cL_law 341 = .ok (.iload_n 3, 1) := by decide +kernel
theorem dL_law_342 : decode cL_law 342 = .ok (.iconst 1, 1) := by decide +kernel
theorem dL_law_343 : decode cL_law 343 = .ok (.iadd, 1) := by decide +kernel
theorem dL_law_344 : decode cL_law 344 = .ok (.iaload, 1) := by decide +kernel
theorem dL_law_345 : decode cL_law 345 = .ok (.invokevirtual 45, 3) := by decide +kernel
theorem dL_law_348 : decode cL_law 348 = .ok (.aload_n 2, 1) := by decide +kernel
theorem dL_law_349 : decode cL_law 349 = .ok (.aload_n 0, 1) := by decide +kernel
theorem dL_law_350 : decode cL_law 350 = .ok (.iload_n 3, 1) := by decide +kernel
theorem dL_law_351 : decode cL_law 351 = .ok (.iconst 1, 1) := by decide +kernel
theorem dL_law_352 : decode cL_law 352 = .ok (.iadd, 1) := by decide +kernel
theorem dL_law_353 : decode cL_law 353 = .ok (.iaload, 1) := by decide +kernel
theorem dL_law_354 : decode cL_law 354 = .ok (.invokevirtual 48, 3) := by decide +kernel
theorem dL_law_357 : decode cL_law 357 = .ok (.if_icmp .eq 446, 3) := by decide +kernel
theorem dL_law_360 : decode cL_law 360 = .ok (.iconst 0, 1) := by decide +kernel
theorem dL_law_361 : decode cL_law 361 = .ok (.ireturn, 1) := by decide +kernel
theorem dL_law_362 : decode cL_law 362 = .ok (.aload_n 1, 1) := by decide +kernel
theorem dL_law_363 : decode cL_law 363 = .ok (.invokevirtual 49, 3) := by decide +kernel
theorem dL_law_366 : decode cL_law 366 = .ok (.aload_n 2, 1) := by decide +kernel
theorem dL_law_367 : decode cL_law 367 = .ok (.invokevirtual 52, 3) := by decide +kernel
theorem dL_law_370 : decode cL_law 370 = .ok (.if_icmp .eq 433, 3) := by decide +kernel
theorem dL_law_373 : decode cL_law 373 = .ok (.iconst 0, 1) := by decide +kernel
theorem dL_law_374 : decode cL_law 374 = .ok (.ireturn, 1) := by decide +kernel
theorem dL_law_375 : decode cL_law 375 = .ok (.aload_n 1, 1) := by decide +kernel
theorem dL_law_376 : decode cL_law 376 = .ok (.aload_n 0, 1) := by decide +kernel
theorem dL_law_377 : decode cL_law 377 = .ok (.iload_n 3, 1) := by decide +kernel
theorem dL_law_378 : decode cL_law 378 = .ok (.iconst 1, 1) := by decide +kernel
theorem dL_law_379 : decode cL_law 379 = .ok (.iadd, 1) := by decide +kernel
theorem dL_law_380 : decode cL_law 380 = .ok (.iaload, 1) := by decide +kernel
theorem dL_law_381 : decode cL_law 381 = .ok (.invokevirtual 53, 3) := by decide +kernel
theorem dL_law_384 : decode cL_law 384 = .ok (.aload_n 2, 1) := by decide +kernel
theorem dL_law_385 : decode cL_law 385 = .ok (.aload_n 0, 1) := by decide +kernel
theorem dL_law_386 : decode cL_law 386 = .ok (.iload_n 3, 1) := by decide +kernel
theorem dL_law_387 : decode cL_law 387 = .ok (.iconst 1, 1) := by decide +kernel
theorem dL_law_388 : decode cL_law 388 = .ok (.iadd, 1) := by decide +kernel
theorem dL_law_389 : decode cL_law 389 = .ok (.iaload, 1) := by decide +kernel
theorem dL_law_390 : decode cL_law 390 = .ok (.invokevirtual 56, 3) := by decide +kernel
theorem dL_law_393 : decode cL_law 393 = .ok (.if_icmp .eq 410, 3) := by decide +kernel
theorem dL_law_396 : decode cL_law 396 = .ok (.iconst 0, 1) := by decide +kernel
theorem dL_law_397 : decode cL_law 397 = .ok (.ireturn, 1) := by decide +kernel
theorem dL_law_398 : decode cL_law 398 = .ok (.aload_n 1, 1) := by decide +kernel
theorem dL_law_399 : decode cL_law 399 = .ok (.aload_n 0, 1) := by decide +kernel
theorem dL_law_400 : decode cL_law 400 = .ok (.iload_n 3, 1) := by decide +kernel
theorem dL_law_401 : decode cL_law 401 = .ok (.iconst 1, 1) := by decide +kernel
theorem dL_law_402 : decode cL_law 402 = .ok (.iadd, 1) := by decide +kernel
theorem dL_law_403 : decode cL_law 403 = .ok (.iaload, 1) := by decide +kernel
theorem dL_law_404 : decode cL_law 404 = .ok (.invokevirtual 57, 3) := by decide +kernel
theorem dL_law_407 : decode cL_law 407 = .ok (.aload_n 2, 1) := by decide +kernel
theorem dL_law_408 : decode cL_law 408 = .ok (.aload_n 0, 1) := by decide +kernel
theorem dL_law_409 : decode cL_law 409 = .ok (.iload_n 3, 1) := by decide +kernel
theorem dL_law_410 : decode cL_law 410 = .ok (.iconst 1, 1) := by decide +kernel
theorem dL_law_411 : decode cL_law 411 = .ok (.iadd, 1) := by decide +kernel
theorem dL_law_412 : decode cL_law 412 = .ok (.iaload, 1) := by decide +kernel
theorem dL_law_413 : decode cL_law 413 = .ok (.invokevirtual 60, 3) := by decide +kernel
theorem dL_law_416 : decode cL_law 416 = .ok (.if_icmp .eq 387, 3) := by decide +kernel
theorem dL_law_419 : decode cL_law 419 = .ok (.iconst 0, 1) := by decide +kernel
theorem dL_law_420 : decode cL_law 420 = .ok (.ireturn, 1) := by decide +kernel
theorem dL_law_421 : decode cL_law 421 = .ok (.aload_n 1, 1) := by decide +kernel
theorem dL_law_422 : decode cL_law 422 = .ok (.aload_n 0, 1) := by decide +kernel
theorem dL_law_423 : decode cL_law 423 = .ok (.iload_n 3, 1) := by decide +kernel
theorem dL_law_424 : decode cL_law 424 = .ok (.iconst 1, 1) := by decide +kernel
theorem dL_law_425 : decode cL_law 425 = .ok (.iadd, 1) := by decide +kernel
theorem dL_law_426 : decode cL_law 426 = .ok (.iaload, 1) := by decide +kernel
theorem dL_law_427 : decode cL_law 427 = .ok (.aload_n 0, 1) := by decide +kernel
theorem dL_law_428 : decode cL_law 428 = .ok (.iload_n 3, 1) := by decide +kernel
theorem dL_law_429 : decode cL_law 429 = .ok (.iconst 2, 1) := by decide +kernel
theorem dL_law_430 : decode cL_law 430 = .ok (.iadd, 1) := by decide +kernel
theorem dL_law_431 : decode cL_law 431 = .ok (.iaload, 1) := by decide +kernel
theorem dL_law_432 : decode cL_law 432 = .ok (.aload_n 0, 1) := by decide +kernel
theorem dL_law_433 : decode cL_law 433 = .ok (.iload_n 3, 1) := by decide +kernel
theorem dL_law_434 : decode cL_law 434 = .ok (.iconst 3, 1) := by decide +kernel
theorem dL_law_435 : decode cL_law 435 = .ok (.iadd, 1) := by decide +kernel
theorem dL_law_436 : decode cL_law 436 = .ok (.iaload, 1) := by decide +kernel
theorem dL_law_437 : decode cL_law 437 = .ok (.invokevirtual 61, 3) := by decide +kernel
theorem dL_law_440 : decode cL_law 440 = .ok (.aload_n 2, 1) := by decide +kernel
theorem dL_law_441 : decode cL_law 441 = .ok (.aload_n 0, 1) := by decide +kernel
theorem dL_law_442 : decode cL_law 442 = .ok (.iload_n 3, 1) := by decide +kernel
theorem dL_law_443 : decode cL_law 443 = .ok (.iconst 1, 1) := by decide +kernel
theorem dL_law_444 : decode cL_law 444 = .ok (.iadd, 1) := by decide +kernel
theorem dL_law_445 : decode cL_law 445 = .ok (.iaload, 1) := by decide +kernel
theorem dL_law_446 : decode cL_law 446 = .ok (.aload_n 0, 1) := by decide +kernel
theorem dL_law_447 : decode cL_law 447 = .ok (.iload_n 3, 1) := by decide +kernel
theorem dL_law_448 : decode cL_law 448 = .ok (.iconst 2, 1) := by decide +kernel
theorem dL_law_449 : decode cL_law 449 = .ok (.iadd, 1) := by decide +kernel
theorem dL_law_450 : decode cL_law 450 = .ok (.iaload, 1) := by decide +kernel
theorem dL_law_451 : decode cL_law 451 = .ok (.aload_n 0, 1) := by decide +kernel
theorem dL_law_452 : decode cL_law 452 = .ok (.iload_n 3, 1) := by decide +kernel
theorem dL_law_453 : decode cL_law 453 = .ok (.iconst 3, 1) := by decide +kernel
theorem dL_law_454 : decode cL_law 454 = .ok (.iadd, 1) := by decide +kernel
theorem dL_law_455 : decode cL_law 455 = .ok (.iaload, 1) := by decide +kernel
theorem dL_law_456 : decode cL_law 456 = .ok (.invokevirtual 64, 3) := by decide +kernel
theorem dL_law_459 : decode cL_law 459 = .ok (.if_icmp .eq 344, 3) := by decide +kernel
theorem dL_law_462 : decode cL_law 462 = .ok (.iconst 0, 1) := by decide +kernel
theorem dL_law_463 : decode cL_law 463 = .ok (.ireturn, 1) := by decide +kernel
theorem dL_law_464 : decode cL_law 464 = .ok (.aload_n 1, 1) := by decide +kernel
theorem dL_law_465 : decode cL_law 465 = .ok (.aload_n 0, 1) := by decide +kernel
theorem dL_law_466 : decode cL_law 466 = .ok (.iload_n 3, 1) := by decide +kernel
theorem dL_law_467 : decode cL_law 467 = .ok (.iconst 1, 1) := by decide +kernel
theorem dL_law_468 : decode cL_law 468 = .ok (.iadd, 1) := by decide +kernel
theorem dL_law_469 : decode cL_law 469 = .ok (.iaload, 1) := by decide +kernel
theorem dL_law_470 : decode cL_law 470 = .ok (.aload_n 0, 1) := by decide +kernel
theorem dL_law_471 : decode cL_law 471 = .ok (.iload_n 3, 1) := by decide +kernel
theorem dL_law_472 : decode cL_law 472 = .ok (.iconst 2, 1) := by decide +kernel
theorem dL_law_473 : decode cL_law 473 = .ok (.iadd, 1) := by decide +kernel
theorem dL_law_474 : decode cL_law 474 = .ok (.iaload, 1) := by decide +kernel
theorem dL_law_475 : decode cL_law 475 = .ok (.invokevirtual 65, 3) := by decide +kernel
theorem dL_law_478 : decode cL_law 478 = .ok (.aload_n 2, 1) := by decide +kernel
theorem dL_law_479 : decode cL_law 479 = .ok (.aload_n 0, 1) := by decide +kernel
theorem dL_law_480 : decode cL_law 480 = .ok (.iload_n 3, 1) := by decide +kernel
theorem dL_law_481 : decode cL_law 481 = .ok (.iconst 1, 1) := by decide +kernel
theorem dL_law_482 : decode cL_law 482 = .ok (.iadd, 1) := by decide +kernel
theorem dL_law_483 : decode cL_law 483 = .ok (.iaload, 1) := by decide +kernel
theorem dL_law_484 : decode cL_law 484 = .ok (.aload_n 0, 1) := by decide +kernel
theorem dL_law_485 : decode cL_law 485 = .ok (.iload_n 3, 1) := by decide +kernel
theorem dL_law_486 : decode cL_law 486 = .ok (.iconst 2, 1) := by decide +kernel
theorem dL_law_487 : decode cL_law 487 = .ok (.iadd, 1) := by decide +kernel
theorem dL_law_488 : decode cL_law 488 = .ok (.iaload, 1) := by decide +kernel
theorem dL_law_489 : decode cL_law 489 = .ok (.invokevirtual 68, 3) := by decide +kernel
theorem dL_law_492 : decode cL_law 492 = .ok (.if_icmp .eq 311, 3) := by decide +kernel
theorem dL_law_495 : decode cL_law 495 = .ok (.iconst 0, 1) := by decide +kernel
theorem dL_law_496 : decode cL_law 496 = .ok (.ireturn, 1) := by decide +kernel
theorem dL_law_497 : decode cL_law 497 = .ok (.aload_n 1, 1) := by decide +kernel
theorem dL_law_498 : decode cL_law 498 = .ok (.aload_n 0, 1) := by decide +kernel
theorem dL_law_499 : decode cL_law 499 = .ok (.iload_n 3, 1) := by decide +kernel
theorem dL_law_500 : decode cL_law 500 = .ok (.iconst 1, 1) := by decide +kernel
theorem dL_law_501 : decode cL_law 501 = .ok (.iadd, 1) := by decide +kernel
theorem dL_law_502 : decode cL_law 502 = .ok (.iaload, 1) := by decide +kernel
theorem dL_law_503 : decode cL_law 503 = .ok (.aload_n 0, 1) := by decide +kernel
theorem dL_law_504 : decode cL_law 504 = .ok (.iload_n 3, 1) := by decide +kernel
theorem dL_law_505 : decode cL_law 505 = .ok (.iconst 2, 1) := by decide +kernel
theorem dL_law_506 : decode cL_law 506 = .ok (.iadd, 1) := by decide +kernel
theorem dL_law_507 : decode cL_law 507 = .ok (.iaload, 1) := by decide +kernel
theorem dL_law_508 : decode cL_law 508 = .ok (.invokevirtual 69, 3) := by decide +kernel
theorem dL_law_511 : decode cL_law 511 = .ok (.aload_n 2, 1) := by decide +kernel
theorem dL_law_512 : decode cL_law 512 = .ok (.aload_n 0, 1) := by decide +kernel
theorem dL_law_513 : decode cL_law 513 = .ok (.iload_n 3, 1) := by decide +kernel
theorem dL_law_514 : decode cL_law 514 = .ok (.iconst 1, 1) := by decide +kernel
theorem dL_law_515 : decode cL_law 515 = .ok (.iadd, 1) := by decide +kernel
theorem dL_law_516 : decode cL_law 516 = .ok (.iaload, 1) := by decide +kernel
theorem dL_law_517 : decode cL_law 517 = .ok (.aload_n 0, 1) := by decide +kernel
theorem dL_law_518 : decode cL_law 518 = .ok (.iload_n 3, 1) := by decide +kernel
theorem dL_law_519 : decode cL_law 519 = .ok (.iconst 2, 1) := by decide +kernel
theorem dL_law_520 : decode cL_law 520 = .ok (.iadd, 1) := by decide +kernel
theorem dL_law_521 : decode cL_law 521 = .ok (.iaload, 1) := by decide +kernel
theorem dL_law_522 : decode cL_law 522 = .ok (.invokevirtual 72, 3) := by decide +kernel
theorem dL_law_525 : decode cL_law 525 = .ok (.if_icmp .eq 278, 3) := by decide +kernel
theorem dL_law_528 : decode cL_law 528 = .ok (.iconst 0, 1) := by decide +kernel
theorem dL_law_529 : decode cL_law 529 = .ok (.ireturn, 1) := by decide +kernel
theorem dL_law_530 : decode cL_law 530 = .ok (.aload_n 1, 1) := by decide +kernel
theorem dL_law_531 : decode cL_law 531 = .ok (.aload_n 0, 1) := by decide +kernel
theorem dL_law_532 : decode cL_law 532 = .ok (.iload_n 3, 1) := by decide +kernel
theorem dL_law_533 : decode cL_law 533 = .ok (.iconst 1, 1) := by decide +kernel
theorem dL_law_534 : decode cL_law 534 = .ok (.iadd, 1) := by decide +kernel
theorem dL_law_535 : decode cL_law 535 = .ok (.iaload, 1) := by decide +kernel
theorem dL_law_536 : decode cL_law 536 = .ok (.aload_n 0, 1) := by decide +kernel
theorem dL_law_537 : decode cL_law 537 = .ok (.iload_n 3, 1) := by decide +kernel
theorem dL_law_538 : decode cL_law 538 = .ok (.iconst 2, 1) := by decide +kernel
theorem dL_law_539 : decode cL_law 539 = .ok (.iadd, 1) := by decide +kernel
theorem dL_law_540 : decode cL_law 540 = .ok (.iaload, 1) := by decide +kernel
theorem dL_law_541 : decode cL_law 541 = .ok (.invokevirtual 73, 3) := by decide +kernel
theorem dL_law_544 : decode cL_law 544 = .ok (.aload_n 2, 1) := by decide +kernel
theorem dL_law_545 : decode cL_law 545 = .ok (.aload_n 0, 1) := by decide +kernel
theorem dL_law_546 : decode cL_law 546 = .ok (.iload_n 3, 1) := by decide +kernel
theorem dL_law_547 : decode cL_law 547 = .ok (.iconst 1, 1) := by decide +kernel
theorem dL_law_548 : decode cL_law 548 = .ok (.iadd, 1) := by decide +kernel
theorem dL_law_549 : decode cL_law 549 = .ok (.iaload, 1) := by decide +kernel
theorem dL_law_550 : decode cL_law 550 = .ok (.aload_n 0, 1) := by decide +kernel
theorem dL_law_551 : decode cL_law 551 = .ok (.iload_n 3, 1) := by decide +kernel
theorem dL_law_552 : decode cL_law 552 = .ok (.iconst 2, 1) := by decide +kernel
theorem dL_law_553 : decode cL_law 553 = .ok (.iadd, 1) := by decide +kernel
theorem dL_law_554 : decode cL_law 554 = .ok (.iaload, 1) := by decide +kernel
theorem dL_law_555 : decode cL_law 555 = .ok (.invokevirtual 76, 3) := by decide +kernel
theorem dL_law_558 : decode cL_law 558 = .ok (.if_icmp .eq 245, 3) := by decide +kernel
theorem dL_law_561 : decode cL_law 561 = .ok (.iconst 0, 1) := by decide +kernel
theorem dL_law_562 : decode cL_law 562 = .ok (.ireturn, 1) := by decide +kernel
theorem dL_law_563 : decode cL_law 563 = .ok (.aload_n 1, 1) := by decide +kernel
theorem dL_law_564 : decode cL_law 564 = .ok (.aload_n 0, 1) := by decide +kernel
theorem dL_law_565 : decode cL_law 565 = .ok (.iload_n 3, 1) := by decide +kernel
theorem dL_law_566 : decode cL_law 566 = .ok (.iconst 1, 1) := by decide +kernel
theorem dL_law_567 : decode cL_law 567 = .ok (.iadd, 1) := by decide +kernel
theorem dL_law_568 : decode cL_law 568 = .ok (.iaload, 1) := by decide +kernel
theorem dL_law_569 : decode cL_law 569 = .ok (.aload_n 0, 1) := by decide +kernel
theorem dL_law_570 : decode cL_law 570 = .ok (.iload_n 3, 1) := by decide +kernel
theorem dL_law_571 : decode cL_law 571 = .ok (.iconst 2, 1) := by decide +kernel
theorem dL_law_572 : decode cL_law 572 = .ok (.iadd, 1) := by decide +kernel
theorem dL_law_573 : decode cL_law 573 = .ok (.iaload, 1) := by decide +kernel
theorem dL_law_574 : decode cL_law 574 = .ok (.invokevirtual 77, 3) := by decide +kernel
theorem dL_law_577 : decode cL_law 577 = .ok (.aload_n 2, 1) := by decide +kernel
theorem dL_law_578 : decode cL_law 578 = .ok (.aload_n 0, 1) := by decide +kernel
theorem dL_law_579 : decode cL_law 579 = .ok (.iload_n 3, 1) := by decide +kernel
theorem dL_law_580 : decode cL_law 580 = .ok (.iconst 1, 1) := by decide +kernel
theorem dL_law_581 : decode cL_law 581 = .ok (.iadd, 1) := by decide +kernel
theorem dL_law_582 : decode cL_law 582 = .ok (.iaload, 1) := by decide +kernel
theorem dL_law_583 : decode cL_law 583 = .ok (.aload_n 0, 1) := by decide +kernel
theorem dL_law_584 : decode cL_law 584 = .ok (.iload_n 3, 1) := by decide +kernel
theorem dL_law_585 : decode cL_law 585 = .ok (.iconst 2, 1) := by decide +kernel
theorem dL_law_586 : decode cL_law 586 = .ok (.iadd, 1) := by decide +kernel
theorem dL_law_587 : decode cL_law 587 = .ok (.iaload, 1) := by decide +kernel
theorem dL_law_588 : decode cL_law 588 = .ok (.invokevirtual 80, 3) := by decide +kernel
theorem dL_law_591 : decode cL_law 591 = .ok (.if_icmp .eq 212, 3) := by decide +kernel
theorem dL_law_594 : decode cL_law 594 = .ok (.iconst 0, 1) := by decide +kernel
theorem dL_law_595 : decode cL_law 595 = .ok (.ireturn, 1) := by decide +kernel
theorem dL_law_596 : decode cL_law 596 = .ok (.aload_n 1, 1) := by decide +kernel
theorem dL_law_597 : decode cL_law 597 = .ok (.aload_n 0, 1) := by decide +kernel
theorem dL_law_598 : decode cL_law 598 = .ok (.iload_n 3, 1) := by decide +kernel
theorem dL_law_599 : decode cL_law 599 = .ok (.iconst 1, 1) := by decide +kernel
theorem dL_law_600 : decode cL_law 600 = .ok (.iadd, 1) := by decide +kernel
theorem dL_law_601 : decode cL_law 601 = .ok (.iaload, 1) := by decide +kernel
theorem dL_law_602 : decode cL_law 602 = .ok (.aload_n 0, 1) := by decide +kernel
theorem dL_law_603 : decode cL_law 603 = .ok (.iload_n 3, 1) := by decide +kernel
theorem dL_law_604 : decode cL_law 604 = .ok (.iconst 2, 1) := by decide +kernel
theorem dL_law_605 : decode cL_law 605 = .ok (.iadd, 1) := by decide +kernel
theorem dL_law_606 : decode cL_law 606 = .ok (.iaload, 1) := by decide +kernel
theorem dL_law_607 : decode cL_law 607 = .ok (.invokevirtual 81, 3) := by decide +kernel
theorem dL_law_610 : decode cL_law 610 = .ok (.aload_n 2, 1) := by decide +kernel
theorem dL_law_611 : decode cL_law 611 = .ok (.aload_n 0, 1) := by decide +kernel
theorem dL_law_612 : decode cL_law 612 = .ok (.iload_n 3, 1) := by decide +kernel
theorem dL_law_613 : decode cL_law 613 = .ok (.iconst 1, 1) := by decide +kernel
theorem dL_law_614 : decode cL_law 614 = .ok (.iadd, 1) := by decide +kernel
theorem dL_law_615 : decode cL_law 615 = .ok (.iaload, 1) := by decide +kernel
theorem dL_law_616 : decode cL_law 616 = .ok (.aload_n 0, 1) := by decide +kernel
theorem dL_law_617 : decode cL_law 617 = .ok (.iload_n 3, 1) := by decide +kernel
theorem dL_law_618 : decode cL_law 618 = .ok (.iconst 2, 1) := by decide +kernel
theorem dL_law_619 : decode cL_law 619 = .ok (.iadd, 1) := by decide +kernel
theorem dL_law_620 : decode cL_law 620 = .ok (.iaload, 1) := by decide +kernel
theorem dL_law_621 : decode cL_law 621 = .ok (.invokevirtual 84, 3) := by decide +kernel
theorem dL_law_624 : decode cL_law 624 = .ok (.if_icmp .eq 179, 3) := by decide +kernel
theorem dL_law_627 : decode cL_law 627 = .ok (.iconst 0, 1) := by decide +kernel
theorem dL_law_628 : decode cL_law 628 = .ok (.ireturn, 1) := by decide +kernel
theorem dL_law_629 : decode cL_law 629 = .ok (.aload_n 1, 1) := by decide +kernel
theorem dL_law_630 : decode cL_law 630 = .ok (.invokevirtual 85, 3) := by decide +kernel
theorem dL_law_633 : decode cL_law 633 = .ok (.aload_n 2, 1) := by decide +kernel
theorem dL_law_634 : decode cL_law 634 = .ok (.invokevirtual 88, 3) := by decide +kernel
theorem dL_law_637 : decode cL_law 637 = .ok (.if_icmp .eq 166, 3) := by decide +kernel
theorem dL_law_640 : decode cL_law 640 = .ok (.iconst 0, 1) := by decide +kernel
theorem dL_law_641 : decode cL_law 641 = .ok (.ireturn, 1) := by decide +kernel
theorem dL_law_642 : decode cL_law 642 = .ok (.aload_n 1, 1) := by decide +kernel
theorem dL_law_643 : decode cL_law 643 = .ok (.aload_n 0, 1) := by decide +kernel
theorem dL_law_644 : decode cL_law 644 = .ok (.iload_n 3, 1) := by decide +kernel
theorem dL_law_645 : decode cL_law 645 = .ok (.iconst 1, 1) := by decide +kernel
theorem dL_law_646 : decode cL_law 646 = .ok (.iadd, 1) := by decide +kernel
theorem dL_law_647 : decode cL_law 647 = .ok (.iaload, 1) := by decide +kernel
theorem dL_law_648 : decode cL_law 648 = .ok (.invokevirtual 89, 3) := by decide +kernel
theorem dL_law_651 : decode cL_law 651 = .ok (.aload_n 2, 1) := by decide +kernel
theorem dL_law_652 : decode cL_law 652 = .ok (.aload_n 0, 1) := by decide +kernel
theorem dL_law_653 : decode cL_law 653 = .ok (.iload_n 3, 1) := by decide +kernel
theorem dL_law_654 : decode cL_law 654 = .ok (.iconst 1, 1) := by decide +kernel
theorem dL_law_655 : decode cL_law 655 = .ok (.iadd, 1) := by decide +kernel
theorem dL_law_656 : decode cL_law 656 = .ok (.iaload, 1) := by decide +kernel
theorem dL_law_657 : decode cL_law 657 = .ok (.invokevirtual 92, 3) := by decide +kernel
theorem dL_law_660 : decode cL_law 660 = .ok (.if_icmp .eq 143, 3) := by decide +kernel
theorem dL_law_663 : decode cL_law 663 = .ok (.iconst 0, 1) := by decide +kernel
theorem dL_law_664 : decode cL_law 664 = .ok (.ireturn, 1) := by decide +kernel
theorem dL_law_665 : decode cL_law 665 = .ok (.aload_n 1, 1) := by decide +kernel
theorem dL_law_666 : decode cL_law 666 = .ok (.aload_n 0, 1) := by decide +kernel
theorem dL_law_667 : decode cL_law 667 = .ok (.iload_n 3, 1) := by decide +kernel
theorem dL_law_668 : decode cL_law 668 = .ok (.iconst 1, 1) := by decide +kernel
theorem dL_law_669 : decode cL_law 669 = .ok (.iadd, 1) := by decide +kernel
theorem dL_law_670 : decode cL_law 670 = .ok (.iaload, 1) := by decide +kernel
theorem dL_law_671 : decode cL_law 671 = .ok (.invokevirtual 93, 3) := by decide +kernel
theorem dL_law_674 : decode cL_law 674 = .ok (.aload_n 2, 1) := by decide +kernel
theorem dL_law_675 : decode cL_law 675 = .ok (.aload_n 0, 1) := by decide +kernel
theorem dL_law_676 : decode cL_law 676 = .ok (.iload_n 3, 1) := by decide +kernel
theorem dL_law_677 : decode cL_law 677 = .ok (.iconst 1, 1) := by decide +kernel
theorem dL_law_678 : decode cL_law 678 = .ok (.iadd, 1) := by decide +kernel
theorem dL_law_679 : decode cL_law 679 = .ok (.iaload, 1) := by decide +kernel
theorem dL_law_680 : decode cL_law 680 = .ok (.invokevirtual 96, 3) := by decide +kernel
theorem dL_law_683 : decode cL_law 683 = .ok (.if_icmp .eq 120, 3) := by decide +kernel
theorem dL_law_686 : decode cL_law 686 = .ok (.iconst 0, 1) := by decide +kernel
theorem dL_law_687 : decode cL_law 687 = .ok (.ireturn, 1) := by decide +kernel
theorem dL_law_688 : decode cL_law 688 = .ok (.aload_n 1, 1) := by decide +kernel
theorem dL_law_689 : decode cL_law 689 = .ok (.aload_n 0, 1) := by decide +kernel
theorem dL_law_690 : decode cL_law 690 = .ok (.iload_n 3, 1) := by decide +kernel
theorem dL_law_691 : decode cL_law 691 = .ok (.iconst 1, 1) := by decide +kernel
theorem dL_law_692 : decode cL_law 692 = .ok (.iadd, 1) := by decide +kernel
theorem dL_law_693 : decode cL_law 693 = .ok (.iaload, 1) := by decide +kernel
theorem dL_law_694 : decode cL_law 694 = .ok (.invokevirtual 97, 3) := by decide +kernel
theorem dL_law_697 : decode cL_law 697 = .ok (.aload_n 2, 1) := by decide +kernel
theorem dL_law_698 : decode cL_law 698 = .ok (.aload_n 0, 1) := by decide +kernel
theorem dL_law_699 : decode cL_law 699 = .ok (.iload_n 3, 1) := by decide +kernel
theorem dL_law_700 : decode cL_law 700 = .ok (.iconst 1, 1) := by decide +kernel
theorem dL_law_701 : decode cL_law 701 = .ok (.iadd, 1) := by decide +kernel
theorem dL_law_702 : decode cL_law 702 = .ok (.iaload, 1) := by decide +kernel
theorem dL_law_703 : decode cL_law 703 = .ok (.invokevirtual 100, 3) := by decide +kernel
theorem dL_law_706 : decode cL_law 706 = .ok (.if_icmp .eq 97, 3) := by decide +kernel
theorem dL_law_709 : decode cL_law 709 = .ok (.iconst 0, 1) := by decide +kernel
theorem dL_law_710 : decode cL_law 710 = .ok (.ireturn, 1) := by decide +kernel
theorem dL_law_711 : decode cL_law 711 = .ok (.aload_n 1, 1) := by decide +kernel
theorem dL_law_712 : decode cL_law 712 = .ok (.aload_n 0, 1) := by decide +kernel
theorem dL_law_713 : decode cL_law 713 = .ok (.iload_n 3, 1) := by decide +kernel
theorem dL_law_714 : decode cL_law 714 = .ok (.iconst 1, 1) := by decide +kernel
theorem dL_law_715 : decode cL_law 715 = .ok (.iadd, 1) := by decide +kernel
theorem dL_law_716 : decode cL_law 716 = .ok (.iaload, 1) := by decide +kernel
theorem dL_law_717 : decode cL_law 717 = .ok (.invokevirtual 101, 3) := by decide +kernel
theorem dL_law_720 : decode cL_law 720 = .ok (.aload_n 2, 1) := by decide +kernel
theorem dL_law_721 : decode cL_law 721 = .ok (.aload_n 0, 1) := by decide +kernel
theorem dL_law_722 : decode cL_law 722 = .ok (.iload_n 3, 1) := by decide +kernel
theorem dL_law_723 : decode cL_law 723 = .ok (.iconst 1, 1) := by decide +kernel
theorem dL_law_724 : decode cL_law 724 = .ok (.iadd, 1) := by decide +kernel
theorem dL_law_725 : decode cL_law 725 = .ok (.iaload, 1) := by decide +kernel
theorem dL_law_726 : decode cL_law 726 = .ok (.invokevirtual 104, 3) := by decide +kernel
theorem dL_law_729 : decode cL_law 729 = .ok (.if_icmp .eq 74, 3) := by decide +kernel
theorem dL_law_732 : decode cL_law 732 = .ok (.iconst 0, 1) := by decide +kernel
theorem dL_law_733 : decode cL_law 733 = .ok (.ireturn, 1) := by decide +kernel
theorem dL_law_734 : decode cL_law 734 = .ok (.aload_n 1, 1) := by decide +kernel
theorem dL_law_735 : decode cL_law 735 = .ok (.aload_n 0, 1) := by decide +kernel
theorem dL_law_736 : decode cL_law 736 = .ok (.iload_n 3, 1) := by decide +kernel
theorem dL_law_737 : decode cL_law 737 = .ok (.iconst 1, 1) := by decide +kernel
theorem dL_law_738 : decode cL_law 738 = .ok (.iadd, 1) := by decide +kernel
theorem dL_law_739 : decode cL_law 739 = .ok (.iaload, 1) := by decide +kernel
theorem dL_law_740 : decode cL_law 740 = .ok (.invokevirtual 105, 3) := by decide +kernel
theorem dL_law_743 : decode cL_law 743 = .ok (.aload_n 2, 1) := by decide +kernel
theorem dL_law_744 : decode cL_law 744 = .ok (.aload_n 0, 1) := by decide +kernel
theorem dL_law_745 : decode cL_law 745 = .ok (.iload_n 3, 1) := by decide +kernel
theorem dL_law_746 : decode cL_law 746 = .ok (.iconst 1, 1) := by decide +kernel
theorem dL_law_747 : decode cL_law 747 = .ok (.iadd, 1) := by decide +kernel
theorem dL_law_748 : decode cL_law 748 = .ok (.iaload, 1) := by decide +kernel
theorem dL_law_749 : decode cL_law 749 = .ok (.invokevirtual 108, 3) := by decide +kernel
theorem dL_law_752 : decode cL_law 752 = .ok (.if_icmp .eq 51, 3) := by decide +kernel
theorem dL_law_755 : decode cL_law 755 = .ok (.iconst 0, 1) := by decide +kernel
theorem dL_law_756 : decode cL_law 756 = .ok (.ireturn, 1) := by decide +kernel
theorem dL_law_757 : decode cL_law 757 = .ok (.aload_n 1, 1) := by decide +kernel
theorem dL_law_758 : decode cL_law 758 = .ok (.aload_n 0, 1) := by decide +kernel
theorem dL_law_759 : decode cL_law 759 = .ok (.iload_n 3, 1) := by decide +kernel
theorem dL_law_760 : decode cL_law 760 = .ok (.iconst 1, 1) := by decide +kernel
theorem dL_law_761 : decode cL_law 761 = .ok (.iadd, 1) := by decide +kernel
theorem dL_law_762 : decode cL_law 762 = .ok (.iaload, 1) := by decide +kernel
theorem dL_law_763 : decode cL_law 763 = .ok (.invokevirtual 109, 3) := by decide +kernel
theorem dL_law_766 : decode cL_law 766 = .ok (.aload_n 2, 1) := by decide +kernel
theorem dL_law_767 : decode cL_law 767 = .ok (.aload_n 0, 1) := by decide +kernel
theorem dL_law_768 : decode cL_law 768 = .ok (.iload_n 3, 1) := by decide +kernel
theorem dL_law_769 : decode cL_law 769 = .ok (.iconst 1, 1) := by decide +kernel
theorem dL_law_770 : decode cL_law 770 = .ok (.iadd, 1) := by decide +kernel
theorem dL_law_771 : decode cL_law 771 = .ok (.iaload, 1) := by decide +kernel
theorem dL_law_772 : decode cL_law 772 = .ok (.invokevirtual 112, 3) := by decide +kernel
theorem dL_law_775 : decode cL_law 775 = .ok (.if_icmp .eq 28, 3) := by decide +kernel
theorem dL_law_778 : decode cL_law 778 = .ok (.iconst 0, 1) := by decide +kernel
theorem dL_law_779 : decode cL_law 779 = .ok (.ireturn, 1) := by decide +kernel
theorem dL_law_780 : decode cL_law 780 = .ok (.aload_n 1, 1) := by decide +kernel
theorem dL_law_781 : decode cL_law 781 = .ok (.aload_n 0, 1) := by decide +kernel
theorem dL_law_782 : decode cL_law 782 = .ok (.iload_n 3, 1) := by decide +kernel
theorem dL_law_783 : decode cL_law 783 = .ok (.iconst 1, 1) := by decide +kernel
theorem dL_law_784 : decode cL_law 784 = .ok (.iadd, 1) := by decide +kernel
theorem dL_law_785 : decode cL_law 785 = .ok (.iaload, 1) := by decide +kernel
theorem dL_law_786 : decode cL_law 786 = .ok (.invokevirtual 113, 3) := by decide +kernel
theorem dL_law_789 : decode cL_law 789 = .ok (.aload_n 2, 1) := by decide +kernel
theorem dL_law_790 : decode cL_law 790 = .ok (.aload_n 0, 1) := by decide +kernel
theorem dL_law_791 : decode cL_law 791 = .ok (.iload_n 3, 1) := by decide +kernel
theorem dL_law_792 : decode cL_law 792 = .ok (.iconst 1, 1) := by decide +kernel
theorem dL_law_793 : decode cL_law 793 = .ok (.iadd, 1) := by decide +kernel
theorem dL_law_794 : decode cL_law 794 = .ok (.iaload, 1) := by decide +kernel
theorem dL_law_795 : decode cL_law 795 = .ok (.invokevirtual 116, 3) := by decide +kernel
theorem dL_law_798 : decode cL_law 798 = .ok (.if_icmp .eq 5, 3) := by decide +kernel
theorem dL_law_801 : decode cL_law 801 = .ok (.iconst 0, 1) := by decide +kernel
theorem dL_law_802 : decode cL_law 802 = .ok (.ireturn, 1) := by decide +kernel
theorem dL_law_803 : decode cL_law 803 = .ok (.iinc 3 4, 3) := by decide +kernel
theorem dL_law_806 : decode cL_law 806 = .ok (.goto (-788), 3) := by decide +kernel
theorem dL_law_809 : decode cL_law 809 = .ok (.iconst 1, 1) := by decide +kernel
theorem dL_law_810 : decode cL_law 810 = .ok (.ireturn, 1) := by decide +kernel
