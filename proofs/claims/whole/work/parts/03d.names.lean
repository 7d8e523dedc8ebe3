set_option maxRecDepth 100000 in
theorem gX1_init_X5_init_n20 : GoodIn wsX1_init (wsX5_init) := ggX1_init_X5_init
theorem dX1_init_0 : decode cX1_init 0 = .ok (.aload_n 0, 1) := by decide +kernel
theorem dX1_init_1 : decode cX1_init 1 = .ok (.invokespecial 3, 3) := by decide +kernel
theorem dX1_init_4 : decode cX1_init 4 = .ok (.aload_n 0, 1) := by decide +kernel
theorem dX1_init_5 : decode cX1_init 5 = .ok (.bipush 8, 2) := by decide +kernel
theorem dX1_init_7 : decode cX1_init 7 = .ok (.newarray .int, 2) := by decide +kernel
theorem dX1_init_9 : decode cX1_init 9 = .ok (.putfield 11, 3) := by decide +kernel
theorem dX1_init_12 : decode cX1_init 12 = .ok (.aload_n 0, 1) := by decide +kernel
theorem dX1_init_13 : decode cX1_init 13 = .ok (.bipush 16, 2) := by decide +kernel
theorem dX1_init_15 : decode cX1_init 15 = .ok (.newarray .int, 2) := by decide +kernel
theorem dX1_init_17 : decode cX1_init 17 = .ok (.putfield 15, 3) := by decide +kernel
theorem dX1_init_20 : decode cX1_init 20 = .ok (.aload_n 0, 1) := by decide +kernel
theorem dX1_init_21 : decode cX1_init 21 = .ok (.new 18, 3) := by decide +kernel
theorem dX1_init_24 : decode cX1_init 24 = .ok (.dup, 1) := by decide +kernel
theorem dX1_init_25 : decode cX1_init 25 = .ok (.invokespecial 20, 3) := by decide +kernel
theorem dX1_init_28 : decode cX1_init 28 = .ok (.putfield 21, 3) := by decide +kernel
theorem dX1_init_31 : decode cX1_init 31 = .ok (.aload_n 0, 1) := by decide +kernel
theorem dX1_init_32 : decode cX1_init 32 = .ok (.new 18, 3) := by decide +kernel
theorem dX1_init_35 : decode cX1_init 35 = .ok (.dup, 1) := by decide +kernel
theorem dX1_init_36 : decode cX1_init 36 = .ok (.invokespecial 20, 3) := by decide +kernel
theorem dX1_init_39 : decode cX1_init 39 = .ok (.putfield 25, 3) := by decide +kernel
theorem dX1_init_42 : decode cX1_init 42 = .ok (.aload_n 0, 1) := by decide +kernel
theorem dX1_init_43 : decode cX1_init 43 = .ok (.bipush 36, 2) := by decide +kernel
theorem dX1_init_45 : decode cX1_init 45 = .ok (.newarray .int, 2) := by decide +kernel
theorem dX1_init_47 : decode cX1_init 47 = .ok (.putfield 28, 3) := by decide +kernel
theorem dX1_init_50 : decode cX1_init 50 = .ok (.return_, 1) := by decide +kernel
theorem dX1_columns_0 : decode cX1_columns 0 = .ok (.aload_n 0, 1) := by decide +kernel
theorem dX1_columns_1 : decode cX1_columns 1 = .ok (.getfield 31, 3) := by decide +kernel
theorem dX1_columns_4 : decode cX1_columns 4 = .ok (.ireturn, 1) := by decide +kernel
theorem dX1_rows_0 : decode cX1_rows 0 = .ok (.aload_n 0, 1) := by decide +kernel
theorem dX1_rows_1 : decode cX1_rows 1 = .ok (.getfield 35, 3) := by decide +kernel
theorem dX1_rows_4 : decode cX1_rows 4 = .ok (.ireturn, 1) := by decide +kernel
theorem dX1_limit_0 : decode cX1_limit 0 = .ok (.aload_n 0, 1) := by decide +kernel
theorem dX1_limit_1 : decode cX1_limit 1 = .ok (.getfield 38, 3) := by decide +kernel
theorem dX1_limit_4 : decode cX1_limit 4 = .ok (.ireturn, 1) := by decide +kernel
theorem dX1_treeFor_0 : decode cX1_treeFor 0 = .ok (.iload_n 1, 1) := by decide +kernel
theorem dX1_treeFor_1 : decode cX1_treeFor 1 = .ok (.ifCond .ne 10, 3) := by decide +kernel
theorem dX1_treeFor_4 : decode cX1_treeFor 4 = .ok (.aload_n 0, 1) := by decide +kernel
theorem dX1_treeFor_5 : decode cX1_treeFor 5 = .ok (.getfield 21, 3) := by decide +kernel
theorem dX1_treeFor_8 : decode cX1_treeFor 8 = .ok (.goto 7, 3) := by decide +kernel
theorem dX1_treeFor_11 : decode cX1_treeFor 11 = .ok (.aload_n 0, 1) := by decide +kernel
theorem dX1_treeFor_12 : decode cX1_treeFor 12 = .ok (.getfield 25, 3) := by decide +kernel
theorem dX1_treeFor_15 : decode cX1_treeFor 15 = .ok (.areturn, 1) := by decide +kernel
theorem dX1_ordered_0 : decode cX1_ordered 0 = .ok (.aload_n 0, 1) := by decide +kernel
theorem dX1_ordered_1 : decode cX1_ordered 1 = .ok (.getfield 28, 3) := by decide +kernel
theorem dX1_ordered_4 : decode cX1_ordered 4 = .ok (.iload_n 1, 1) := by decide +kernel
theorem dX1_ordered_5 : decode cX1_ordered 5 = .ok (.iaload, 1) := by decide +kernel
theorem dX1_ordered_6 : decode cX1_ordered 6 = .ok (.ireturn, 1) := by decide +kernel
set_option maxRecDepth 100000 in
theorem ggX1_factor_X6_bring : GoodIn wsX1_factor wsX6_bring := goodIn_r _ [5, 6, 7, 8, 9, 10, 11, 12] rfl (by decide +kernel)
set_option maxRecDepth 100000 in
theorem gX1_factor_X6_bring_n41 : GoodIn wsX1_factor (wsX6_bring) := ggX1_factor_X6_bring
theorem dX1_factor_0 : decode cX1_factor 0 = .ok (.aload_n 0, 1) := by decide +kernel
theorem dX1_factor_1 : decode cX1_factor 1 = .ok (.getfield 15, 3) := by decide +kernel
theorem dX1_factor_4 : decode cX1_factor 4 = .ok (.iload_n 2, 1) := by decide +kernel
theorem dX1_factor_5 : decode cX1_factor 5 = .ok (.iconst 4, 1) := by decide +kernel
theorem dX1_factor_6 : decode cX1_factor 6 = .ok (.idiv, 1) := by decide +kernel
theorem dX1_factor_7 : decode cX1_factor 7 = .ok (.iaload, 1) := by decide +kernel
theorem dX1_factor_8 : decode cX1_factor 8 = .ok (.aload_n 0, 1) := by decide +kernel
theorem dX1_factor_9 : decode cX1_factor 9 = .ok (.getfield 11, 3) := by decide +kernel
theorem dX1_factor_12 : decode cX1_factor 12 = .ok (.iload_n 1, 1) := by decide +kernel
theorem dX1_factor_13 : decode cX1_factor 13 = .ok (.iaload, 1) := by decide +kernel
theorem dX1_factor_14 : decode cX1_factor 14 = .ok (.imul, 1) := by decide +kernel
theorem dX1_factor_15 : decode cX1_factor 15 = .ok (.bipush 100, 2) := by decide +kernel
theorem dX1_factor_17 : decode cX1_factor 17 = .ok (.idiv, 1) := by decide +kernel
theorem dX1_factor_18 : decode cX1_factor 18 = .ok (.iconst 2, 1) := by decide +kernel
theorem dX1_factor_19 : decode cX1_factor 19 = .ok (.sipush 4096, 3) := by decide +kernel
theorem dX1_factor_22 : decode cX1_factor 22 = .ok (.invokestatic 41, 3) := by decide +kernel
theorem dX1_factor_25 : decode cX1_factor 25 = .ok (.ireturn, 1) := by decide +kernel
set_option maxRecDepth 100000 in
theorem ggX1_read_X4_number : GoodIn wsX1_read wsX4_number := goodIn_r _ [12, 13, 14, 15, 11, 16, 17, 18, 19, 20, 21, 22, 23, 24, 70, 71, 72, 73] rfl (by decide +kernel)
set_option maxRecDepth 100000 in
theorem gX1_read_X4_number : GoodIn wsX1_read (wsV RX1 45 RX4 yX4_number wsX4_number) := goodIn_app (goodIn_of _ (by decide +kernel)) ggX1_read_X4_number
set_option maxRecDepth 100000 in
theorem ggX1_read_X4_fail : GoodIn wsX1_read wsX4_fail := goodIn_r _ [24, 19, 70, 71, 72, 73] rfl (by decide +kernel)
set_option maxRecDepth 100000 in
theorem gX1_read_X4_fail : GoodIn wsX1_read (wsV RX1 51 RX4 yX4_fail wsX4_fail) := goodIn_app (goodIn_of _ (by decide +kernel)) ggX1_read_X4_fail
set_option maxRecDepth 100000 in
theorem ggX1_read_X5_read : GoodIn wsX1_read wsX5_read := goodIn_r _ [30, 31, 32, 33, 34, 35, 29, 36, 37, 38, 14, 15, 11, 16, 17, 18, 19, 20, 21, 22, 23, 24, 39, 40, 41, 42, 43, 44, 9, 10, 12, 13, 45, 46, 47, 48, 74, 75, 76, 77, 70, 71, 72, 73] rfl (by decide +kernel)
set_option maxRecDepth 100000 in
theorem gX1_read_X5_read : GoodIn wsX1_read (wsV RX1 55 RX5 yX5_read wsX5_read) := goodIn_app (goodIn_of _ (by decide +kernel)) ggX1_read_X5_read
set_option maxRecDepth 100000 in
theorem ggX1_read_X4_isSound : GoodIn wsX1_read wsX4_isSound := goodIn_r _ [48, 19, 70, 71, 72, 73] rfl (by decide +kernel)
set_option maxRecDepth 100000 in
theorem gX1_read_X4_isSound : GoodIn wsX1_read (wsV RX1 59 RX4 yX4_isSound wsX4_isSound) := goodIn_app (goodIn_of _ (by decide +kernel)) ggX1_read_X4_isSound
set_option maxRecDepth 100000 in
theorem ggX1_read_X1_putInOrder : GoodIn wsX1_read wsX1_putInOrder := goodIn_r _ [54, 2, 1, 55, 56, 57, 53, 58, 59, 60, 61, 62, 63, 64, 65, 66, 67, 68, 69] rfl (by decide +kernel)
set_option maxRecDepth 100000 in
theorem gX1_read_X1_putInOrder : GoodIn wsX1_read (wsV RX1 63 RX1 yX1_putInOrder wsX1_putInOrder) := goodIn_app (goodIn_of _ (by decide +kernel)) ggX1_read_X1_putInOrder
theorem dX1_read_0 : decode cX1_read 0 = .ok (.aload_n 0, 1) := by decide +kernel
theorem dX1_read_1 : decode cX1_read 1 = .ok (.aload_n 1, 1) := by decide +kernel
theorem dX1_read_2 : decode cX1_read 2 = .ok (.iconst 3, 1) := by decide +kernel
theorem dX1_read_3 : decode cX1_read 3 = .ok (.invokevirtual 45, 3) := by decide +kernel
theorem dX1_read_6 : decode cX1_read 6 = .ok (.iconst 1, 1) := by decide +kernel
theorem dX1_read_7 : decode cX1_read 7 = .ok (.iadd, 1) := by decide +kernel
theorem dX1_read_8 : decode cX1_read 8 = .ok (.putfield 31, 3) := by decide +kernel
theorem dX1_read_11 : decode cX1_read 11 = .ok (.aload_n 0, 1) := by decide +kernel
theorem dX1_read_12 : decode cX1_read 12 = .ok (.aload_n 1, 1) := by decide +kernel
theorem dX1_read_13 : decode cX1_read 13 = .ok (.iconst 3, 1) := by decide +kernel
theorem dX1_read_14 : decode cX1_read 14 = .ok (.invokevirtual 45, 3) := by decide +kernel
theorem dX1_read_17 : decode cX1_read 17 = .ok (.iconst 1, 1) := by decide +kernel
theorem dX1_read_18 : decode cX1_read 18 = .ok (.iadd, 1) := by decide +kernel
theorem dX1_read_19 : decode cX1_read 19 = .ok (.putfield 35, 3) := by decide +kernel
theorem dX1_read_22 : decode cX1_read 22 = .ok (.aload_n 0, 1) := by decide +kernel
theorem dX1_read_23 : decode cX1_read 23 = .ok (.getfield 31, 3) := by decide +kernel
theorem dX1_read_26 : decode cX1_read 26 = .ok (.bipush 6, 2) := by decide +kernel
theorem dX1_read_28 : decode cX1_read 28 = .ok (.if_icmp .gt 12, 3) := by decide +kernel
theorem dX1_read_31 : decode cX1_read 31 = .ok (.aload_n 0, 1) := by decide +kernel
theorem dX1_read_32 : decode cX1_read 32 = .ok (.getfield 35, 3) := by decide +kernel
theorem dX1_read_35 : decode cX1_read 35 = .ok (.bipush 6, 2) := by decide +kernel
theorem dX1_read_37 : decode cX1_read 37 = .ok (.if_icmp .le 8, 3) := by decide +kernel
theorem dX1_read_40 : decode cX1_read 40 = .ok (.aload_n 1, 1) := by decide +kernel
theorem dX1_read_41 : decode cX1_read 41 = .ok (.iconst 2, 1) := by decide +kernel
theorem dX1_read_42 : decode cX1_read 42 = .ok (.invokevirtual 51, 3) := by decide +kernel
theorem dX1_read_45 : decode cX1_read 45 = .ok (.aload_n 0, 1) := by decide +kernel
theorem dX1_read_46 : decode cX1_read 46 = .ok (.aload_n 1, 1) := by decide +kernel
theorem dX1_read_47 : decode cX1_read 47 = .ok (.iconst 5, 1) := by decide +kernel
theorem dX1_read_48 : decode cX1_read 48 = .ok (.invokevirtual 45, 3) := by decide +kernel
theorem dX1_read_51 : decode cX1_read 51 = .ok (.putfield 38, 3) := by decide +kernel
theorem dX1_read_54 : decode cX1_read 54 = .ok (.iconst 0, 1) := by decide +kernel
theorem dX1_read_55 : decode cX1_read 55 = .ok (.istore_n 2, 1) := by decide +kernel
theorem dX1_read_56 : decode cX1_read 56 = .ok (.iload_n 2, 1) := by decide +kernel
theorem dX1_read_57 : decode cX1_read 57 = .ok (.bipush 8, 2) := by decide +kernel
theorem dX1_read_59 : decode cX1_read 59 = .ok (.if_icmp .ge 21, 3) := by decide +kernel
theorem dX1_read_62 : decode cX1_read 62 = .ok (.aload_n 0, 1) := by decide +kernel
theorem dX1_read_63 : decode cX1_read 63 = .ok (.getfield 11, 3) := by decide +kernel
theorem dX1_read_66 : decode cX1_read 66 = .ok (.iload_n 2, 1) := by decide +kernel
theorem dX1_read_67 : decode cX1_read 67 = .ok (.aload_n 1, 1) := by decide +kernel
theorem dX1_read_68 : decode cX1_read 68 = .ok (.bipush 10, 2) := by decide +kernel
theorem dX1_read_70 : decode cX1_read 70 = .ok (.invokevirtual 45, 3) := by decide +kernel
theorem dX1_read_73 : decode cX1_read 73 = .ok (.iastore, 1) := by decide +kernel
theorem dX1_read_74 : decode cX1_read 74 = .ok (.iinc 2 1, 3) := by decide +kernel
theorem dX1_read_77 : decode cX1_read 77 = .ok (.goto (-21), 3) := by decide +kernel
theorem dX1_read_80 : decode cX1_read 80 = .ok (.iconst 0, 1) := by decide +kernel
theorem dX1_read_81 : decode cX1_read 81 = .ok (.istore_n 2, 1) := by decide +kernel
theorem dX1_read_82 : decode cX1_read 82 = .ok (.iload_n 2, 1) := by decide +kernel
theorem dX1_read_83 : decode cX1_read 83 = .ok (.bipush 16, 2) := by decide +kernel
theorem dX1_read_85 : decode cX1_read 85 = .ok (.if_icmp .ge 21, 3) := by decide +kernel
theorem dX1_read_88 : decode cX1_read 88 = .ok (.aload_n 0, 1) := by decide +kernel
theorem dX1_read_89 : decode cX1_read 89 = .ok (.getfield 15, 3) := by decide +kernel
theorem dX1_read_92 : decode cX1_read 92 = .ok (.iload_n 2, 1) := by decide +kernel
theorem dX1_read_93 : decode cX1_read 93 = .ok (.aload_n 1, 1) := by decide +kernel
theorem dX1_read_94 : decode cX1_read 94 = .ok (.bipush 8, 2) := by decide +kernel
theorem dX1_read_96 : decode cX1_read 96 = .ok (.invokevirtual 45, 3) := by decide +kernel
theorem dX1_read_99 : decode cX1_read 99 = .ok (.iastore, 1) := by decide +kernel
theorem dX1_read_100 : decode cX1_read 100 = .ok (.iinc 2 1, 3) := by decide +kernel
theorem dX1_read_103 : decode cX1_read 103 = .ok (.goto (-21), 3) := by decide +kernel
theorem dX1_read_106 : decode cX1_read 106 = .ok (.aload_n 0, 1) := by decide +kernel
theorem dX1_read_107 : decode cX1_read 107 = .ok (.getfield 21, 3) := by decide +kernel
theorem dX1_read_110 : decode cX1_read 110 = .ok (.aload_n 1, 1) := by decide +kernel
theorem dX1_read_111 : decode cX1_read 111 = .ok (.invokevirtual 55, 3) := by decide +kernel
theorem dX1_read_114 : decode cX1_read 114 = .ok (.aload_n 0, 1) := by decide +kernel
theorem dX1_read_115 : decode cX1_read 115 = .ok (.getfield 25, 3) := by decide +kernel
theorem dX1_read_118 : decode cX1_read 118 = .ok (.aload_n 1, 1) := by decide +kernel
theorem dX1_read_119 : decode cX1_read 119 = .ok (.invokevirtual 55, 3) := by decide +kernel
theorem dX1_read_122 : decode cX1_read 122 = .ok (.aload_n 1, 1) := by decide +kernel
theorem dX1_read_123 : decode cX1_read 123 = .ok (.invokevirtual 59, 3) := by decide +kernel
theorem dX1_read_126 : decode cX1_read 126 = .ok (.ifCond .eq 7, 3) := by decide +kernel
theorem dX1_read_129 : decode cX1_read 129 = .ok (.aload_n 0, 1) := by decide +kernel
theorem dX1_read_130 : decode cX1_read 130 = .ok (.invokevirtual 63, 3) := by decide +kernel
theorem dX1_read_133 : decode cX1_read 133 = .ok (.return_, 1) := by decide +kernel
set_option maxRecDepth 100000 in
theorem ggX1_putInOrder_X1_putSquare : GoodIn wsX1_putInOrder wsX1_putSquare := goodIn_r _ [7, 8, 9, 2, 1, 10, 11, 12, 13, 14, 15, 16, 17, 18] rfl (by decide +kernel)
set_option maxRecDepth 100000 in
theorem gX1_putInOrder_X1_putSquare : GoodIn wsX1_putInOrder (wsV RX1 66 RX1 yX1_putSquare wsX1_putSquare) := goodIn_app (goodIn_of _ (by decide +kernel)) ggX1_putInOrder_X1_putSquare
theorem dX1_putInOrder_0 : decode cX1_putInOrder 0 = .ok (.iconst 0, 1) := by decide +kernel
theorem dX1_putInOrder_1 : decode cX1_putInOrder 1 = .ok (.istore_n 1, 1) := by decide +kernel
theorem dX1_putInOrder_2 : decode cX1_putInOrder 2 = .ok (.iconst 0, 1) := by decide +kernel
theorem dX1_putInOrder_3 : decode cX1_putInOrder 3 = .ok (.istore_n 2, 1) := by decide +kernel
theorem dX1_putInOrder_4 : decode cX1_putInOrder 4 = .ok (.iload_n 2, 1) := by decide +kernel
theorem dX1_putInOrder_5 : decode cX1_putInOrder 5 = .ok (.aload_n 0, 1) := by decide +kernel
theorem dX1_putInOrder_6 : decode cX1_putInOrder 6 = .ok (.getfield 35, 3) := by decide +kernel
theorem dX1_putInOrder_9 : decode cX1_putInOrder 9 = .ok (.if_icmp .ge 33, 3) := by decide +kernel
theorem dX1_putInOrder_12 : decode cX1_putInOrder 12 = .ok (.iconst 0, 1) := by decide +kernel
theorem dX1_putInOrder_13 : decode cX1_putInOrder 13 = .ok (.istore_n 3, 1) := by decide +kernel
theorem dX1_putInOrder_14 : decode cX1_putInOrder 14 = .ok (.iload_n 3, 1) := by decide +kernel
theorem dX1_putInOrder_15 : decode cX1_putInOrder 15 = .ok (.aload_n 0, 1) := by decide +kernel
theorem dX1_putInOrder_16 : decode cX1_putInOrder 16 = .ok (.getfield 31, 3) := by decide +kernel
theorem dX1_putInOrder_19 : decode cX1_putInOrder 19 = .ok (.if_icmp .ge 17, 3) := by decide +kernel
theorem dX1_putInOrder_22 : decode cX1_putInOrder 22 = .ok (.aload_n 0, 1) := by decide +kernel
theorem dX1_putInOrder_23 : decode cX1_putInOrder 23 = .ok (.iload_n 3, 1) := by decide +kernel
theorem dX1_putInOrder_24 : decode cX1_putInOrder 24 = .ok (.iload_n 2, 1) := by decide +kernel
theorem dX1_putInOrder_25 : decode cX1_putInOrder 25 = .ok (.iload_n 1, 1) := by decide +kernel
theorem dX1_putInOrder_26 : decode cX1_putInOrder 26 = .ok (.invokevirtual 66, 3) := by decide +kernel
theorem dX1_putInOrder_29 : decode cX1_putInOrder 29 = .ok (.istore_n 1, 1) := by decide +kernel
theorem dX1_putInOrder_30 : decode cX1_putInOrder 30 = .ok (.iinc 3 4, 3) := by decide +kernel
theorem dX1_putInOrder_33 : decode cX1_putInOrder 33 = .ok (.goto (-19), 3) := by decide +kernel
theorem dX1_putInOrder_36 : decode cX1_putInOrder 36 = .ok (.iinc 2 4, 3) := by decide +kernel
theorem dX1_putInOrder_39 : decode cX1_putInOrder 39 = .ok (.goto (-35), 3) := by decide +kernel
theorem dX1_putInOrder_42 : decode cX1_putInOrder 42 = .ok (.return_, 1) := by decide +kernel
theorem dX1_putSquare_0 : decode cX1_putSquare 0 = .ok (.iload_n 3, 1) := by decide +kernel
theorem dX1_putSquare_1 : decode cX1_putSquare 1 = .ok (.istore 4, 2) := by decide +kernel
theorem dX1_putSquare_3 : decode cX1_putSquare 3 = .ok (.iconst 0, 1) := by decide +kernel
theorem dX1_putSquare_4 : decode cX1_putSquare 4 = .ok (.istore 5, 2) := by decide +kernel
theorem dX1_putSquare_6 : decode cX1_putSquare 6 = .ok (.iload 5, 2) := by decide +kernel
theorem dX1_putSquare_8 : decode cX1_putSquare 8 = .ok (.bipush 16, 2) := by decide +kernel
theorem dX1_putSquare_10 : decode cX1_putSquare 10 = .ok (.if_icmp .ge 74, 3) := by decide +kernel
theorem dX1_putSquare_13 : decode cX1_putSquare 13 = .ok (.iload_n 1, 1) := by decide +kernel
theorem dX1_putSquare_14 : decode cX1_putSquare 14 = .ok (.getstatic 69, 3) := by decide +kernel
theorem dX1_putSquare_17 : decode cX1_putSquare 17 = .ok (.iload 5, 2) := by decide +kernel
theorem dX1_putSquare_19 : decode cX1_putSquare 19 = .ok (.iaload, 1) := by decide +kernel
theorem dX1_putSquare_20 : decode cX1_putSquare 20 = .ok (.iadd, 1) := by decide +kernel
theorem dX1_putSquare_21 : decode cX1_putSquare 21 = .ok (.istore 6, 2) := by decide +kernel
theorem dX1_putSquare_23 : decode cX1_putSquare 23 = .ok (.iload_n 2, 1) := by decide +kernel
theorem dX1_putSquare_24 : decode cX1_putSquare 24 = .ok (.getstatic 72, 3) := by decide +kernel
theorem dX1_putSquare_27 : decode cX1_putSquare 27 = .ok (.iload 5, 2) := by decide +kernel
theorem dX1_putSquare_29 : decode cX1_putSquare 29 = .ok (.iaload, 1) := by decide +kernel
theorem dX1_putSquare_30 : decode cX1_putSquare 30 = .ok (.iadd, 1) := by decide +kernel
theorem dX1_putSquare_31 : decode cX1_putSquare 31 = .ok (.istore 7, 2) := by decide +kernel
theorem dX1_putSquare_33 : decode cX1_putSquare 33 = .ok (.iload 6, 2) := by decide +kernel
theorem dX1_putSquare_35 : decode cX1_putSquare 35 = .ok (.aload_n 0, 1) := by decide +kernel
theorem dX1_putSquare_36 : decode cX1_putSquare 36 = .ok (.getfield 31, 3) := by decide +kernel
theorem dX1_putSquare_39 : decode cX1_putSquare 39 = .ok (.if_icmp .ge 39, 3) := by decide +kernel
theorem dX1_putSquare_42 : decode cX1_putSquare 42 = .ok (.iload 7, 2) := by decide +kernel
theorem dX1_putSquare_44 : decode cX1_putSquare 44 = .ok (.aload_n 0, 1) := by decide +kernel
theorem dX1_putSquare_45 : decode cX1_putSquare 45 = .ok (.getfield 35, 3) := by decide +kernel
theorem dX1_putSquare_48 : decode cX1_putSquare 48 = .ok (.if_icmp .ge 30, 3) := by decide +kernel
theorem dX1_putSquare_51 : decode cX1_putSquare 51 = .ok (.iload 4, 2) := by decide +kernel
theorem dX1_putSquare_53 : decode cX1_putSquare 53 = .ok (.bipush 36, 2) := by decide +kernel
theorem dX1_putSquare_55 : decode cX1_putSquare 55 = .ok (.if_icmp .ge 23, 3) := by decide +kernel
theorem dX1_putSquare_58 : decode cX1_putSquare 58 = .ok (.aload_n 0, 1) := by decide +kernel
theorem dX1_putSquare_59 : decode cX1_putSquare 59 = .ok (.getfield 28, 3) := by decide +kernel
theorem dX1_putSquare_62 : decode cX1_putSquare 62 = .ok (.iload 4, 2) := by decide +kernel
theorem dX1_putSquare_64 : decode cX1_putSquare 64 = .ok (.iload 7, 2) := by decide +kernel
theorem dX1_putSquare_66 : decode cX1_putSquare 66 = .ok (.aload_n 0, 1) := by decide +kernel
theorem dX1_putSquare_67 : decode cX1_putSquare 67 = .ok (.getfield 31, 3) := by decide +kernel
theorem dX1_putSquare_70 : decode cX1_putSquare 70 = .ok (.imul, 1) := by decide +kernel
theorem dX1_putSquare_71 : decode cX1_putSquare 71 = .ok (.iload 6, 2) := by decide +kernel
theorem dX1_putSquare_73 : decode cX1_putSquare 73 = .ok (.iadd, 1) := by decide +kernel
theorem dX1_putSquare_74 : decode cX1_putSquare 74 = .ok (.iastore, 1) := by decide +kernel
theorem dX1_putSquare_75 : decode cX1_putSquare 75 = .ok (.iinc 4 1, 3) := by decide +kernel
theorem dX1_putSquare_78 : decode cX1_putSquare 78 = .ok (.iinc 5 1, 3) := by decide +kernel
theorem dX1_putSquare_81 : decode cX1_putSquare 81 = .ok (.goto (-75), 3) := by decide +kernel
theorem dX1_putSquare_84 : decode cX1_putSquare 84 = .ok (.iload 4, 2) := by decide +kernel
theorem dX1_putSquare_86 : decode cX1_putSquare 86 = .ok (.ireturn, 1) := by decide +kernel
set_option maxRecDepth 100000 in
theorem ggX2_init_X2_setSpots : GoodIn wsX2_init wsX2_setSpots := goodIn_r _ [15, 5, 24, 25, 26, 27, 28] rfl (by decide +kernel)
set_option maxRecDepth 100000 in
theorem gX2_init_X2_setSpots : GoodIn wsX2_init (wsV RX2 28 RX2 yX2_setSpots wsX2_setSpots) := goodIn_app (goodIn_of _ (by decide +kernel)) ggX2_init_X2_setSpots
set_option maxRecDepth 100000 in
theorem ggX2_init_X2_setWaves : GoodIn wsX2_init wsX2_setWaves := goodIn_r _ [19, 6, 20, 21, 14, 22, 23, 24, 25, 26, 27, 28] rfl (by decide +kernel)
set_option maxRecDepth 100000 in
theorem gX2_init_X2_setWaves : GoodIn wsX2_init (wsV RX2 31 RX2 yX2_setWaves wsX2_setWaves) := goodIn_app (goodIn_of _ (by decide +kernel)) ggX2_init_X2_setWaves
theorem dX2_init_0 : decode cX2_init 0 = .ok (.aload_n 0, 1) := by decide +kernel
theorem dX2_init_1 : decode cX2_init 1 = .ok (.invokespecial 3, 3) := by decide +kernel
theorem dX2_init_4 : decode cX2_init 4 = .ok (.aload_n 0, 1) := by decide +kernel
theorem dX2_init_5 : decode cX2_init 5 = .ok (.bipush 64, 2) := by decide +kernel
theorem dX2_init_7 : decode cX2_init 7 = .ok (.newarray .int, 2) := by decide +kernel
theorem dX2_init_9 : decode cX2_init 9 = .ok (.putfield 9, 3) := by decide +kernel
theorem dX2_init_12 : decode cX2_init 12 = .ok (.aload_n 0, 1) := by decide +kernel
theorem dX2_init_13 : decode cX2_init 13 = .ok (.bipush 64, 2) := by decide +kernel
theorem dX2_init_15 : decode cX2_init 15 = .ok (.newarray .int, 2) := by decide +kernel
theorem dX2_init_17 : decode cX2_init 17 = .ok (.putfield 15, 3) := by decide +kernel
theorem dX2_init_20 : decode cX2_init 20 = .ok (.aload_n 0, 1) := by decide +kernel
theorem dX2_init_21 : decode cX2_init 21 = .ok (.bipush 64, 2) := by decide +kernel
theorem dX2_init_23 : decode cX2_init 23 = .ok (.newarray .int, 2) := by decide +kernel
theorem dX2_init_25 : decode cX2_init 25 = .ok (.putfield 18, 3) := by decide +kernel
theorem dX2_init_28 : decode cX2_init 28 = .ok (.aload_n 0, 1) := by decide +kernel
theorem dX2_init_29 : decode cX2_init 29 = .ok (.bipush 64, 2) := by decide +kernel
theorem dX2_init_31 : decode cX2_init 31 = .ok (.newarray .int, 2) := by decide +kernel
theorem dX2_init_33 : decode cX2_init 33 = .ok (.putfield 21, 3) := by decide +kernel
theorem dX2_init_36 : decode cX2_init 36 = .ok (.aload_n 0, 1) := by decide +kernel
theorem dX2_init_37 : decode cX2_init 37 = .ok (.bipush 8, 2) := by decide +kernel
theorem dX2_init_39 : decode cX2_init 39 = .ok (.newarray .long, 2) := by decide +kernel
theorem dX2_init_41 : decode cX2_init 41 = .ok (.putfield 24, 3) := by decide +kernel
theorem dX2_init_44 : decode cX2_init 44 = .ok (.aload_n 0, 1) := by decide +kernel
theorem dX2_init_45 : decode cX2_init 45 = .ok (.invokevirtual 28, 3) := by decide +kernel
theorem dX2_init_48 : decode cX2_init 48 = .ok (.aload_n 0, 1) := by decide +kernel
theorem dX2_init_49 : decode cX2_init 49 = .ok (.invokevirtual 31, 3) := by decide +kernel
theorem dX2_init_52 : decode cX2_init 52 = .ok (.return_, 1) := by decide +kernel
theorem dX2_setSpots_0 : decode cX2_setSpots 0 = .ok (.iconst 0, 1) := by decide +kernel
theorem dX2_setSpots_1 : decode cX2_setSpots 1 = .ok (.istore_n 1, 1) := by decide +kernel
theorem dX2_setSpots_2 : decode cX2_setSpots 2 = .ok (.iconst 0, 1) := by decide +kernel
theorem dX2_setSpots_3 : decode cX2_setSpots 3 = .ok (.istore_n 2, 1) := by decide +kernel
theorem dX2_setSpots_4 : decode cX2_setSpots 4 = .ok (.iload_n 2, 1) := by decide +kernel
theorem dX2_setSpots_5 : decode cX2_setSpots 5 = .ok (.bipush 15, 2) := by decide +kernel
theorem dX2_setSpots_7 : decode cX2_setSpots 7 = .ok (.if_icmp .ge 81, 3) := by decide +kernel
theorem dX2_setSpots_10 : decode cX2_setSpots 10 = .ok (.iconst 0, 1) := by decide +kernel
theorem dX2_setSpots_11 : decode cX2_setSpots 11 = .ok (.istore_n 3, 1) := by decide +kernel
theorem dX2_setSpots_12 : decode cX2_setSpots 12 = .ok (.iload_n 3, 1) := by decide +kernel
theorem dX2_setSpots_13 : decode cX2_setSpots 13 = .ok (.iload_n 2, 1) := by decide +kernel
theorem dX2_setSpots_14 : decode cX2_setSpots 14 = .ok (.if_icmp .gt 68, 3) := by decide +kernel
theorem dX2_setSpots_17 : decode cX2_setSpots 17 = .ok (.iload_n 2, 1) := by decide +kernel
theorem dX2_setSpots_18 : decode cX2_setSpots 18 = .ok (.iconst 2, 1) := by decide +kernel
theorem dX2_setSpots_19 : decode cX2_setSpots 19 = .ok (.irem, 1) := by decide +kernel
theorem dX2_setSpots_20 : decode cX2_setSpots 20 = .ok (.iconst 1, 1) := by decide +kernel
theorem dX2_setSpots_21 : decode cX2_setSpots 21 = .ok (.if_icmp .ne 7, 3) := by decide +kernel
theorem dX2_setSpots_24 : decode cX2_setSpots 24 = .ok (.iload_n 3, 1) := by decide +kernel
theorem dX2_setSpots_25 : decode cX2_setSpots 25 = .ok (.goto 6, 3) := by decide +kernel
theorem dX2_setSpots_28 : decode cX2_setSpots 28 = .ok (.iload_n 2, 1) := by decide +kernel
theorem dX2_setSpots_29 : decode cX2_setSpots 29 = .ok (.iload_n 3, 1) := by decide +kernel
theorem dX2_setSpots_30 : decode cX2_setSpots 30 = .ok (.isub, 1) := by decide +kernel
theorem dX2_setSpots_31 : decode cX2_setSpots 31 = .ok (.istore 4, 2) := by decide +kernel
theorem dX2_setSpots_33 : decode cX2_setSpots 33 = .ok (.iload_n 2, 1) := by decide +kernel
theorem dX2_setSpots_34 : decode cX2_setSpots 34 = .ok (.iload 4, 2) := by decide +kernel
theorem dX2_setSpots_36 : decode cX2_setSpots 36 = .ok (.isub, 1) := by decide +kernel
theorem dX2_setSpots_37 : decode cX2_setSpots 37 = .ok (.istore 5, 2) := by decide +kernel
theorem dX2_setSpots_39 : decode cX2_setSpots 39 = .ok (.iload 4, 2) := by decide +kernel
theorem dX2_setSpots_41 : decode cX2_setSpots 41 = .ok (.bipush 8, 2) := by decide +kernel
theorem dX2_setSpots_43 : decode cX2_setSpots 43 = .ok (.if_icmp .ge 33, 3) := by decide +kernel
theorem dX2_setSpots_46 : decode cX2_setSpots 46 = .ok (.iload 5, 2) := by decide +kernel
theorem dX2_setSpots_48 : decode cX2_setSpots 48 = .ok (.bipush 8, 2) := by decide +kernel
theorem dX2_setSpots_50 : decode cX2_setSpots 50 = .ok (.if_icmp .ge 26, 3) := by decide +kernel
theorem dX2_setSpots_53 : decode cX2_setSpots 53 = .ok (.iload_n 1, 1) := by decide +kernel
theorem dX2_setSpots_54 : decode cX2_setSpots 54 = .ok (.bipush 64, 2) := by decide +kernel
theorem dX2_setSpots_56 : decode cX2_setSpots 56 = .ok (.if_icmp .ge 20, 3) := by decide +kernel
theorem dX2_setSpots_59 : decode cX2_setSpots 59 = .ok (.aload_n 0, 1) := by decide +kernel
theorem dX2_setSpots_60 : decode cX2_setSpots 60 = .ok (.getfield 9, 3) := by decide +kernel
theorem dX2_setSpots_63 : decode cX2_setSpots 63 = .ok (.iload_n 1, 1) := by decide +kernel
theorem dX2_setSpots_64 : decode cX2_setSpots 64 = .ok (.iload 4, 2) := by decide +kernel
theorem dX2_setSpots_66 : decode cX2_setSpots 66 = .ok (.bipush 8, 2) := by decide +kernel
theorem dX2_setSpots_68 : decode cX2_setSpots 68 = .ok (.imul, 1) := by decide +kernel
theorem dX2_setSpots_69 : decode cX2_setSpots 69 = .ok (.iload 5, 2) := by decide +kernel
theorem dX2_setSpots_71 : decode cX2_setSpots 71 = .ok (.iadd, 1) := by decide +kernel
theorem dX2_setSpots_72 : decode cX2_setSpots 72 = .ok (.iastore, 1) := by decide +kernel
theorem dX2_setSpots_73 : decode cX2_setSpots 73 = .ok (.iinc 1 1, 3) := by decide +kernel
theorem dX2_setSpots_76 : decode cX2_setSpots 76 = .ok (.iinc 3 1, 3) := by decide +kernel
theorem dX2_setSpots_79 : decode cX2_setSpots 79 = .ok (.goto (-67), 3) := by decide +kernel
theorem dX2_setSpots_82 : decode cX2_setSpots 82 = .ok (.iinc 2 1, 3) := by decide +kernel
theorem dX2_setSpots_85 : decode cX2_setSpots 85 = .ok (.goto (-81), 3) := by decide +kernel
theorem dX2_setSpots_88 : decode cX2_setSpots 88 = .ok (.return_, 1) := by decide +kernel
set_option maxRecDepth 100000 in
theorem ggX2_setWaves_X2_wave : GoodIn wsX2_setWaves wsX2_wave := goodIn_r _ [5, 6] rfl (by decide +kernel)
set_option maxRecDepth 100000 in
theorem gX2_setWaves_X2_wave : GoodIn wsX2_setWaves (va_wsS RX2 34 yX2_wave wsX2_wave) := goodIn_app (goodIn_of _ (by decide +kernel)) ggX2_setWaves_X2_wave
theorem dX2_setWaves_0 : decode cX2_setWaves 0 = .ok (.iconst 0, 1) := by decide +kernel
theorem dX2_setWaves_1 : decode cX2_setWaves 1 = .ok (.istore_n 1, 1) := by decide +kernel
theorem dX2_setWaves_2 : decode cX2_setWaves 2 = .ok (.iload_n 1, 1) := by decide +kernel
theorem dX2_setWaves_3 : decode cX2_setWaves 3 = .ok (.bipush 8, 2) := by decide +kernel
theorem dX2_setWaves_5 : decode cX2_setWaves 5 = .ok (.if_icmp .ge 39, 3) := by decide +kernel
theorem dX2_setWaves_8 : decode cX2_setWaves 8 = .ok (.iconst 0, 1) := by decide +kernel
theorem dX2_setWaves_9 : decode cX2_setWaves 9 = .ok (.istore_n 2, 1) := by decide +kernel
theorem dX2_setWaves_10 : decode cX2_setWaves 10 = .ok (.iload_n 2, 1) := by decide +kernel
theorem dX2_setWaves_11 : decode cX2_setWaves 11 = .ok (.bipush 8, 2) := by decide +kernel
theorem dX2_setWaves_13 : decode cX2_setWaves 13 = .ok (.if_icmp .ge 25, 3) := by decide +kernel
theorem dX2_setWaves_16 : decode cX2_setWaves 16 = .ok (.aload_n 0, 1) := by decide +kernel
theorem dX2_setWaves_17 : decode cX2_setWaves 17 = .ok (.getfield 15, 3) := by decide +kernel
theorem dX2_setWaves_20 : decode cX2_setWaves 20 = .ok (.iload_n 1, 1) := by decide +kernel
theorem dX2_setWaves_21 : decode cX2_setWaves 21 = .ok (.bipush 8, 2) := by decide +kernel
theorem dX2_setWaves_23 : decode cX2_setWaves 23 = .ok (.imul, 1) := by decide +kernel
theorem dX2_setWaves_24 : decode cX2_setWaves 24 = .ok (.iload_n 2, 1) := by decide +kernel
theorem dX2_setWaves_25 : decode cX2_setWaves 25 = .ok (.iadd, 1) := by decide +kernel
theorem dX2_setWaves_26 : decode cX2_setWaves 26 = .ok (.iload_n 1, 1) := by decide +kernel
theorem dX2_setWaves_27 : decode cX2_setWaves 27 = .ok (.iload_n 2, 1) := by decide +kernel
theorem dX2_setWaves_28 : decode cX2_setWaves 28 = .ok (.invokestatic 34, 3) := by decide +kernel
theorem dX2_setWaves_31 : decode cX2_setWaves 31 = .ok (.iastore, 1) := by decide +kernel
theorem dX2_setWaves_32 : decode cX2_setWaves 32 = .ok (.iinc 2 1, 3) := by decide +kernel
theorem dX2_setWaves_35 : decode cX2_setWaves 35 = .ok (.goto (-25), 3) := by decide +kernel
theorem dX2_setWaves_38 : decode cX2_setWaves 38 = .ok (.iinc 1 1, 3) := by decide +kernel
theorem dX2_setWaves_41 : decode cX2_setWaves 41 = .ok (.goto (-39), 3) := by decide +kernel
theorem dX2_setWaves_44 : decode cX2_setWaves 44 = .ok (.return_, 1) := by decide +kernel
theorem dX2_wave_0 : decode cX2_wave 0 = .ok (.iload_n 1, 1) := by decide +kernel
theorem dX2_wave_1 : decode cX2_wave 1 = .ok (.ifCond .ne 7, 3) := by decide +kernel
theorem dX2_wave_4 : decode cX2_wave 4 = .ok (.sipush 11585, 3) := by decide +kernel
theorem dX2_wave_7 : decode cX2_wave 7 = .ok (.ireturn, 1) := by decide +kernel
theorem dX2_wave_8 : decode cX2_wave 8 = .ok (.iconst 2, 1) := by decide +kernel
theorem dX2_wave_9 : decode cX2_wave 9 = .ok (.iload_n 0, 1) := by decide +kernel
theorem dX2_wave_10 : decode cX2_wave 10 = .ok (.imul, 1) := by decide +kernel
theorem dX2_wave_11 : decode cX2_wave 11 = .ok (.iconst 1, 1) := by decide +kernel
theorem dX2_wave_12 : decode cX2_wave 12 = .ok (.iadd, 1) := by decide +kernel
theorem dX2_wave_13 : decode cX2_wave 13 = .ok (.iload_n 1, 1) := by decide +kernel
theorem dX2_wave_14 : decode cX2_wave 14 = .ok (.imul, 1) := by decide +kernel
theorem dX2_wave_15 : decode cX2_wave 15 = .ok (.bipush 31, 2) := by decide +kernel
theorem dX2_wave_17 : decode cX2_wave 17 = .ok (.iand, 1) := by decide +kernel
theorem dX2_wave_18 : decode cX2_wave 18 = .ok (.istore_n 2, 1) := by decide +kernel
theorem dX2_wave_19 : decode cX2_wave 19 = .ok (.iload_n 2, 1) := by decide +kernel
theorem dX2_wave_20 : decode cX2_wave 20 = .ok (.bipush 8, 2) := by decide +kernel
theorem dX2_wave_22 : decode cX2_wave 22 = .ok (.if_icmp .gt 9, 3) := by decide +kernel
theorem dX2_wave_25 : decode cX2_wave 25 = .ok (.getstatic 38, 3) := by decide +kernel
theorem dX2_wave_28 : decode cX2_wave 28 = .ok (.iload_n 2, 1) := by decide +kernel
theorem dX2_wave_29 : decode cX2_wave 29 = .ok (.iaload, 1) := by decide +kernel
theorem dX2_wave_30 : decode cX2_wave 30 = .ok (.ireturn, 1) := by decide +kernel
theorem dX2_wave_31 : decode cX2_wave 31 = .ok (.iload_n 2, 1) := by decide +kernel
theorem dX2_wave_32 : decode cX2_wave 32 = .ok (.bipush 16, 2) := by decide +kernel
theorem dX2_wave_34 : decode cX2_wave 34 = .ok (.if_icmp .gt 13, 3) := by decide +kernel
theorem dX2_wave_37 : decode cX2_wave 37 = .ok (.getstatic 38, 3) := by decide +kernel
theorem dX2_wave_40 : decode cX2_wave 40 = .ok (.bipush 16, 2) := by decide +kernel
theorem dX2_wave_42 : decode cX2_wave 42 = .ok (.iload_n 2, 1) := by decide +kernel
theorem dX2_wave_43 : decode cX2_wave 43 = .ok (.isub, 1) := by decide +kernel
theorem dX2_wave_44 : decode cX2_wave 44 = .ok (.iaload, 1) := by decide +kernel
theorem dX2_wave_45 : decode cX2_wave 45 = .ok (.ineg, 1) := by decide +kernel
theorem dX2_wave_46 : decode cX2_wave 46 = .ok (.ireturn, 1) := by decide +kernel
theorem dX2_wave_47 : decode cX2_wave 47 = .ok (.iload_n 2, 1) := by decide +kernel
theorem dX2_wave_48 : decode cX2_wave 48 = .ok (.bipush 24, 2) := by decide +kernel
theorem dX2_wave_50 : decode cX2_wave 50 = .ok (.if_icmp .gt 15, 3) := by decide +kernel
theorem dX2_wave_53 : decode cX2_wave 53 = .ok (.getstatic 38, 3) := by decide +kernel
theorem dX2_wave_56 : decode cX2_wave 56 = .ok (.iload_n 2, 1) := by decide +kernel
theorem dX2_wave_57 : decode cX2_wave 57 = .ok (.bipush 16, 2) := by decide +kernel
theorem dX2_wave_59 : decode cX2_wave 59 = .ok (.isub, 1) := by decide +kernel
theorem dX2_wave_60 : decode cX2_wave 60 = .ok (.iaload, 1) := by decide +kernel
theorem dX2_wave_61 : decode cX2_wave 61 = .ok (.ineg, 1) := by decide +kernel
theorem dX2_wave_62 : decode cX2_wave 62 = .ok (.goto 11, 3) := by decide +kernel
theorem dX2_wave_65 : decode cX2_wave 65 = .ok (.getstatic 38, 3) := by decide +kernel
theorem dX2_wave_68 : decode cX2_wave 68 = .ok (.bipush 32, 2) := by decide +kernel
theorem dX2_wave_70 : decode cX2_wave 70 = .ok (.iload_n 2, 1) := by decide +kernel
theorem dX2_wave_71 : decode cX2_wave 71 = .ok (.isub, 1) := by decide +kernel
theorem dX2_wave_72 : decode cX2_wave 72 = .ok (.iaload, 1) := by decide +kernel
theorem dX2_wave_73 : decode cX2_wave 73 = .ok (.ireturn, 1) := by decide +kernel
set_option maxRecDepth 100000 in
theorem ggX2_paint_X1_columns : GoodIn wsX2_paint wsX1_columns := goodIn_r _ [5, 6, 157, 158, 159, 160, 161, 162, 163, 164] rfl (by decide +kernel)
set_option maxRecDepth 100000 in
theorem gX2_paint_X1_columns : GoodIn wsX2_paint (wsV RX2 41 RX1 yX1_columns wsX1_columns) := goodIn_app (goodIn_of _ (by decide +kernel)) ggX2_paint_X1_columns
set_option maxRecDepth 100000 in
theorem ggX2_paint_X1_rows : GoodIn wsX2_paint wsX1_rows := goodIn_r _ [10, 11, 157, 158, 159, 160, 161, 162, 163, 164] rfl (by decide +kernel)
set_option maxRecDepth 100000 in
theorem gX2_paint_X1_rows : GoodIn wsX2_paint (wsV RX2 47 RX1 yX1_rows wsX1_rows) := goodIn_app (goodIn_of _ (by decide +kernel)) ggX2_paint_X1_rows
set_option maxRecDepth 100000 in
theorem ggX2_paint_X3_setSize : GoodIn wsX2_paint wsX3_setSize := goodIn_r _ [16, 17, 18, 165, 166, 167] rfl (by decide +kernel)
set_option maxRecDepth 100000 in
theorem gX2_paint_X3_setSize : GoodIn wsX2_paint (wsV RX2 50 RX3 yX3_setSize wsX3_setSize) := goodIn_app (goodIn_of _ (by decide +kernel)) ggX2_paint_X3_setSize
set_option maxRecDepth 100000 in
theorem ggX2_paint_X0_index : GoodIn wsX2_paint wsX0_index := goodIn_r _ [23, 24, 168, 169, 170, 171, 172, 173, 174, 175, 176, 177, 178, 179] rfl (by decide +kernel)
set_option maxRecDepth 100000 in
theorem gX2_paint_X0_index : GoodIn wsX2_paint (wsV RX2 56 RX0 yX0_index wsX0_index) := goodIn_app (goodIn_of _ (by decide +kernel)) ggX2_paint_X0_index
set_option maxRecDepth 100000 in
theorem ggX2_paint_X0_mode : GoodIn wsX2_paint wsX0_mode := goodIn_r _ [28, 29, 168, 169, 170, 171, 172, 173, 174, 175, 176, 177, 178, 179] rfl (by decide +kernel)
set_option maxRecDepth 100000 in
theorem gX2_paint_X0_mode : GoodIn wsX2_paint (wsV RX2 61 RX0 yX0_mode wsX0_mode) := goodIn_app (goodIn_of _ (by decide +kernel)) ggX2_paint_X0_mode
set_option maxRecDepth 100000 in
theorem ggX2_paint_X2_makeAdded : GoodIn wsX2_paint wsX2_makeAdded := goodIn_r _ [34, 35, 36, 37, 38, 39, 40, 22, 41, 42, 43, 44, 45, 46, 47, 48, 49, 50, 4, 51, 52, 53, 54, 55, 56, 57, 58, 59, 60, 61, 62, 63, 64, 65, 66, 33, 67, 68, 69, 70, 71, 72, 73, 74, 75, 76, 77, 78, 180, 181, 182, 183, 184, 168, 169, 170, 171, 172, 173, 174, 175, 176, 177, 178, 179, 157, 158, 159, 160, 161, 162, 163, 164] rfl (by decide +kernel)
set_option maxRecDepth 100000 in
theorem gX2_paint_X2_makeAdded : GoodIn wsX2_paint (wsV RX2 65 RX2 yX2_makeAdded wsX2_makeAdded) := goodIn_app (goodIn_of _ (by decide +kernel)) ggX2_paint_X2_makeAdded
set_option maxRecDepth 100000 in
theorem ggX2_paint_X2_paintBlock : GoodIn wsX2_paint wsX2_paintBlock := goodIn_r _ [82, 35, 19, 20, 21, 22, 23, 24, 25, 26, 27, 28, 29, 83, 84, 85, 86, 87, 88, 89, 90, 91, 92, 93, 94, 33, 95, 96, 97, 98, 15, 99, 100, 18, 17, 54, 55, 56, 57, 58, 59, 60, 61, 62, 63, 101, 102, 103, 104, 180, 181, 182, 183, 184, 168, 169, 170, 171, 172, 173, 174, 175, 176, 177, 178, 179, 165, 166, 167] rfl (by decide +kernel)
set_option maxRecDepth 100000 in
theorem gX2_paint_X2_paintBlock : GoodIn wsX2_paint (wsV RX2 69 RX2 yX2_paintBlock wsX2_paintBlock) := goodIn_app (goodIn_of _ (by decide +kernel)) ggX2_paint_X2_paintBlock
set_option maxRecDepth 100000 in
theorem ggX2_paint_X1_limit : GoodIn wsX2_paint wsX1_limit := goodIn_r _ [108, 109, 157, 158, 159, 160, 161, 162, 163, 164] rfl (by decide +kernel)
set_option maxRecDepth 100000 in
theorem gX2_paint_X1_limit : GoodIn wsX2_paint (wsV RX2 73 RX1 yX1_limit wsX1_limit) := goodIn_app (goodIn_of _ (by decide +kernel)) ggX2_paint_X1_limit
set_option maxRecDepth 100000 in
theorem ggX2_paint_X3_smooth : GoodIn wsX2_paint wsX3_smooth := goodIn_r _ [113, 114, 115, 116, 22, 117, 118, 119, 120, 121, 122, 24, 123, 20, 21, 23, 124, 125, 126, 127, 29, 128, 129, 130, 15, 131, 132, 133, 134, 135, 17, 136, 137, 138, 139, 100, 140, 141, 142, 143, 144, 59, 145, 54, 55, 56, 57, 58, 60, 61, 62, 63, 146, 147, 148, 149, 150, 151, 152, 153, 154, 155, 156, 168, 169, 170, 171, 172, 173, 174, 175, 176, 177, 178, 179, 165, 166, 167] rfl (by decide +kernel)
set_option maxRecDepth 100000 in
theorem gX2_paint_X3_smooth : GoodIn wsX2_paint (wsV RX2 76 RX3 yX3_smooth wsX3_smooth) := goodIn_app (goodIn_of _ (by decide +kernel)) ggX2_paint_X3_smooth
theorem dX2_paint_0 : decode cX2_paint 0 = .ok (.aload 5, 2) := by decide +kernel
theorem dX2_paint_2 : decode cX2_paint 2 = .ok (.aload_n 2, 1) := by decide +kernel
theorem dX2_paint_3 : decode cX2_paint 3 = .ok (.invokevirtual 41, 3) := by decide +kernel
theorem dX2_paint_6 : decode cX2_paint 6 = .ok (.aload_n 2, 1) := by decide +kernel
theorem dX2_paint_7 : decode cX2_paint 7 = .ok (.invokevirtual 47, 3) := by decide +kernel
theorem dX2_paint_10 : decode cX2_paint 10 = .ok (.invokevirtual 50, 3) := by decide +kernel
theorem dX2_paint_13 : decode cX2_paint 13 = .ok (.iconst 0, 1) := by decide +kernel
theorem dX2_paint_14 : decode cX2_paint 14 = .ok (.istore 6, 2) := by decide +kernel
theorem dX2_paint_16 : decode cX2_paint 16 = .ok (.iload 6, 2) := by decide +kernel
theorem dX2_paint_18 : decode cX2_paint 18 = .ok (.aload_n 2, 1) := by decide +kernel
theorem dX2_paint_19 : decode cX2_paint 19 = .ok (.invokevirtual 47, 3) := by decide +kernel
theorem dX2_paint_22 : decode cX2_paint 22 = .ok (.if_icmp .ge 76, 3) := by decide +kernel
theorem dX2_paint_25 : decode cX2_paint 25 = .ok (.iconst 0, 1) := by decide +kernel
theorem dX2_paint_26 : decode cX2_paint 26 = .ok (.istore 7, 2) := by decide +kernel
theorem dX2_paint_28 : decode cX2_paint 28 = .ok (.iload 7, 2) := by decide +kernel
theorem dX2_paint_30 : decode cX2_paint 30 = .ok (.aload_n 2, 1) := by decide +kernel
theorem dX2_paint_31 : decode cX2_paint 31 = .ok (.invokevirtual 41, 3) := by decide +kernel
theorem dX2_paint_34 : decode cX2_paint 34 = .ok (.if_icmp .ge 58, 3) := by decide +kernel
theorem dX2_paint_37 : decode cX2_paint 37 = .ok (.aload_n 1, 1) := by decide +kernel
theorem dX2_paint_38 : decode cX2_paint 38 = .ok (.iload 7, 2) := by decide +kernel
theorem dX2_paint_40 : decode cX2_paint 40 = .ok (.iload 6, 2) := by decide +kernel
theorem dX2_paint_42 : decode cX2_paint 42 = .ok (.invokevirtual 56, 3) := by decide +kernel
theorem dX2_paint_45 : decode cX2_paint 45 = .ok (.istore 8, 2) := by decide +kernel
theorem dX2_paint_47 : decode cX2_paint 47 = .ok (.aload_n 1, 1) := by decide +kernel
theorem dX2_paint_48 : decode cX2_paint 48 = .ok (.iload 8, 2) := by decide +kernel
theorem dX2_paint_50 : decode cX2_paint 50 = .ok (.invokevirtual 61, 3) := by decide +kernel
theorem dX2_paint_53 : decode cX2_paint 53 = .ok (.iconst 4, 1) := by decide +kernel
theorem dX2_paint_54 : decode cX2_paint 54 = .ok (.if_icmp .ne 8, 3) := by decide +kernel
theorem dX2_paint_57 : decode cX2_paint 57 = .ok (.aload 4, 2) := by decide +kernel
theorem dX2_paint_59 : decode cX2_paint 59 = .ok (.goto 4, 3) := by decide +kernel
theorem dX2_paint_62 : decode cX2_paint 62 = .ok (.aload_n 3, 1) := by decide +kernel
theorem dX2_paint_63 : decode cX2_paint 63 = .ok (.astore 9, 2) := by decide +kernel
theorem dX2_paint_65 : decode cX2_paint 65 = .ok (.aload_n 0, 1) := by decide +kernel
theorem dX2_paint_66 : decode cX2_paint 66 = .ok (.aload_n 1, 1) := by decide +kernel
theorem dX2_paint_67 : decode cX2_paint 67 = .ok (.aload_n 2, 1) := by decide +kernel
theorem dX2_paint_68 : decode cX2_paint 68 = .ok (.iload 8, 2) := by decide +kernel
theorem dX2_paint_70 : decode cX2_paint 70 = .ok (.invokevirtual 65, 3) := by decide +kernel
theorem dX2_paint_73 : decode cX2_paint 73 = .ok (.aload_n 0, 1) := by decide +kernel
theorem dX2_paint_74 : decode cX2_paint 74 = .ok (.aload_n 1, 1) := by decide +kernel
theorem dX2_paint_75 : decode cX2_paint 75 = .ok (.iload 7, 2) := by decide +kernel
theorem dX2_paint_77 : decode cX2_paint 77 = .ok (.iload 6, 2) := by decide +kernel
theorem dX2_paint_79 : decode cX2_paint 79 = .ok (.aload 9, 2) := by decide +kernel
theorem dX2_paint_81 : decode cX2_paint 81 = .ok (.aload 5, 2) := by decide +kernel
theorem dX2_paint_83 : decode cX2_paint 83 = .ok (.invokevirtual 69, 3) := by decide +kernel
theorem dX2_paint_86 : decode cX2_paint 86 = .ok (.iinc 7 1, 3) := by decide +kernel
theorem dX2_paint_89 : decode cX2_paint 89 = .ok (.goto (-61), 3) := by decide +kernel
theorem dX2_paint_92 : decode cX2_paint 92 = .ok (.iinc 6 1, 3) := by decide +kernel
theorem dX2_paint_95 : decode cX2_paint 95 = .ok (.goto (-79), 3) := by decide +kernel
theorem dX2_paint_98 : decode cX2_paint 98 = .ok (.aload_n 2, 1) := by decide +kernel
theorem dX2_paint_99 : decode cX2_paint 99 = .ok (.invokevirtual 73, 3) := by decide +kernel
theorem dX2_paint_102 : decode cX2_paint 102 = .ok (.ifCond .eq 13, 3) := by decide +kernel
theorem dX2_paint_105 : decode cX2_paint 105 = .ok (.aload 5, 2) := by decide +kernel
theorem dX2_paint_107 : decode cX2_paint 107 = .ok (.aload_n 1, 1) := by decide +kernel
theorem dX2_paint_108 : decode cX2_paint 108 = .ok (.aload_n 2, 1) := by decide +kernel
theorem dX2_paint_109 : decode cX2_paint 109 = .ok (.invokevirtual 73, 3) := by decide +kernel
theorem dX2_paint_112 : decode cX2_paint 112 = .ok (.invokevirtual 76, 3) := by decide +kernel
theorem dX2_paint_115 : decode cX2_paint 115 = .ok (.return_, 1) := by decide +kernel
set_option maxRecDepth 100000 in
theorem ggX2_paintBlock_X0_index : GoodIn wsX2_paintBlock wsX0_index := goodIn_r _ [6, 7, 54, 55, 56, 57, 58, 59, 60, 61, 62, 63, 64, 65] rfl (by decide +kernel)
set_option maxRecDepth 100000 in
theorem gX2_paintBlock_X0_index : GoodIn wsX2_paintBlock (wsV RX2 56 RX0 yX0_index wsX0_index) := goodIn_app (goodIn_of _ (by decide +kernel)) ggX2_paintBlock_X0_index
set_option maxRecDepth 100000 in
theorem ggX2_paintBlock_X0_mode : GoodIn wsX2_paintBlock wsX0_mode := goodIn_r _ [11, 12, 54, 55, 56, 57, 58, 59, 60, 61, 62, 63, 64, 65] rfl (by decide +kernel)
set_option maxRecDepth 100000 in
theorem gX2_paintBlock_X0_mode : GoodIn wsX2_paintBlock (wsV RX2 61 RX0 yX0_mode wsX0_mode) := goodIn_app (goodIn_of _ (by decide +kernel)) ggX2_paintBlock_X0_mode
set_option maxRecDepth 100000 in
theorem ggX2_paintBlock_X0_across : GoodIn wsX2_paintBlock wsX0_across := goodIn_r _ [16, 17, 54, 55, 56, 57, 58, 59, 60, 61, 62, 63, 64, 65] rfl (by decide +kernel)
set_option maxRecDepth 100000 in
theorem gX2_paintBlock_X0_across : GoodIn wsX2_paintBlock (wsV RX2 80 RX0 yX0_across wsX0_across) := goodIn_app (goodIn_of _ (by decide +kernel)) ggX2_paintBlock_X0_across
set_option maxRecDepth 100000 in
theorem ggX2_paintBlock_X0_down : GoodIn wsX2_paintBlock wsX0_down := goodIn_r _ [21, 22, 54, 55, 56, 57, 58, 59, 60, 61, 62, 63, 64, 65] rfl (by decide +kernel)
set_option maxRecDepth 100000 in
theorem gX2_paintBlock_X0_down : GoodIn wsX2_paintBlock (wsV RX2 83 RX0 yX0_down wsX0_down) := goodIn_app (goodIn_of _ (by decide +kernel)) ggX2_paintBlock_X0_down
set_option maxRecDepth 100000 in
theorem ggX2_paintBlock_X2_moved : GoodIn wsX2_paintBlock wsX2_moved := goodIn_r _ [26, 27, 28, 29, 30, 31, 32, 33, 34, 35, 36, 37, 38, 39, 40, 41, 42, 43, 44, 66, 67, 68] rfl (by decide +kernel)
set_option maxRecDepth 100000 in
theorem gX2_paintBlock_X2_moved : GoodIn wsX2_paintBlock (va_wsS RX2 86 yX2_moved wsX2_moved) := goodIn_app (goodIn_of _ (by decide +kernel)) ggX2_paintBlock_X2_moved
set_option maxRecDepth 100000 in
theorem ggX2_paintBlock_X3_put : GoodIn wsX2_paintBlock wsX3_put := goodIn_r _ [48, 32, 34, 35, 36, 37, 38, 39, 40, 41, 42, 43, 44, 66, 67, 68] rfl (by decide +kernel)
set_option maxRecDepth 100000 in
theorem gX2_paintBlock_X3_put : GoodIn wsX2_paintBlock (wsV RX2 90 RX3 yX3_put wsX3_put) := goodIn_app (goodIn_of _ (by decide +kernel)) ggX2_paintBlock_X3_put
theorem dX2_paintBlock_0 : decode cX2_paintBlock 0 = .ok (.aload_n 1, 1) := by decide +kernel
theorem dX2_paintBlock_1 : decode cX2_paintBlock 1 = .ok (.iload_n 2, 1) := by decide +kernel
theorem dX2_paintBlock_2 : decode cX2_paintBlock 2 = .ok (.iload_n 3, 1) := by decide +kernel
theorem dX2_paintBlock_3 : decode cX2_paintBlock 3 = .ok (.invokevirtual 56, 3) := by decide +kernel
theorem dX2_paintBlock_6 : decode cX2_paintBlock 6 = .ok (.istore 6, 2) := by decide +kernel
theorem dX2_paintBlock_8 : decode cX2_paintBlock 8 = .ok (.iconst 0, 1) := by decide +kernel
theorem dX2_paintBlock_9 : decode cX2_paintBlock 9 = .ok (.istore 7, 2) := by decide +kernel
theorem dX2_paintBlock_11 : decode cX2_paintBlock 11 = .ok (.iload 7, 2) := by decide +kernel
theorem dX2_paintBlock_13 : decode cX2_paintBlock 13 = .ok (.bipush 64, 2) := by decide +kernel
theorem dX2_paintBlock_15 : decode cX2_paintBlock 15 = .ok (.if_icmp .ge 91, 3) := by decide +kernel
theorem dX2_paintBlock_18 : decode cX2_paintBlock 18 = .ok (.iload_n 2, 1) := by decide +kernel
theorem dX2_paintBlock_19 : decode cX2_paintBlock 19 = .ok (.bipush 8, 2) := by decide +kernel
theorem dX2_paintBlock_21 : decode cX2_paintBlock 21 = .ok (.imul, 1) := by decide +kernel
theorem dX2_paintBlock_22 : decode cX2_paintBlock 22 = .ok (.iload 7, 2) := by decide +kernel
theorem dX2_paintBlock_24 : decode cX2_paintBlock 24 = .ok (.bipush 8, 2) := by decide +kernel
theorem dX2_paintBlock_26 : decode cX2_paintBlock 26 = .ok (.irem, 1) := by decide +kernel
theorem dX2_paintBlock_27 : decode cX2_paintBlock 27 = .ok (.iadd, 1) := by decide +kernel
theorem dX2_paintBlock_28 : decode cX2_paintBlock 28 = .ok (.istore 8, 2) := by decide +kernel
theorem dX2_paintBlock_30 : decode cX2_paintBlock 30 = .ok (.iload_n 3, 1) := by decide +kernel
theorem dX2_paintBlock_31 : decode cX2_paintBlock 31 = .ok (.bipush 8, 2) := by decide +kernel
theorem dX2_paintBlock_33 : decode cX2_paintBlock 33 = .ok (.imul, 1) := by decide +kernel
theorem dX2_paintBlock_34 : decode cX2_paintBlock 34 = .ok (.iload 7, 2) := by decide +kernel
theorem dX2_paintBlock_36 : decode cX2_paintBlock 36 = .ok (.bipush 8, 2) := by decide +kernel
theorem dX2_paintBlock_38 : decode cX2_paintBlock 38 = .ok (.idiv, 1) := by decide +kernel
theorem dX2_paintBlock_39 : decode cX2_paintBlock 39 = .ok (.iadd, 1) := by decide +kernel
theorem dX2_paintBlock_40 : decode cX2_paintBlock 40 = .ok (.istore 9, 2) := by decide +kernel
theorem dX2_paintBlock_42 : decode cX2_paintBlock 42 = .ok (.aload_n 1, 1) := by decide +kernel
theorem dX2_paintBlock_43 : decode cX2_paintBlock 43 = .ok (.iload 6, 2) := by decide +kernel
theorem dX2_paintBlock_45 : decode cX2_paintBlock 45 = .ok (.invokevirtual 61, 3) := by decide +kernel
theorem dX2_paintBlock_48 : decode cX2_paintBlock 48 = .ok (.iconst 2, 1) := by decide +kernel
theorem dX2_paintBlock_49 : decode cX2_paintBlock 49 = .ok (.if_icmp .ne 9, 3) := by decide +kernel
theorem dX2_paintBlock_52 : decode cX2_paintBlock 52 = .ok (.sipush 128, 3) := by decide +kernel
theorem dX2_paintBlock_55 : decode cX2_paintBlock 55 = .ok (.goto 24, 3) := by decide +kernel
theorem dX2_paintBlock_58 : decode cX2_paintBlock 58 = .ok (.aload 4, 2) := by decide +kernel
theorem dX2_paintBlock_60 : decode cX2_paintBlock 60 = .ok (.iload 8, 2) := by decide +kernel
theorem dX2_paintBlock_62 : decode cX2_paintBlock 62 = .ok (.iload 9, 2) := by decide +kernel
theorem dX2_paintBlock_64 : decode cX2_paintBlock 64 = .ok (.aload_n 1, 1) := by decide +kernel
theorem dX2_paintBlock_65 : decode cX2_paintBlock 65 = .ok (.iload 6, 2) := by decide +kernel
theorem dX2_paintBlock_67 : decode cX2_paintBlock 67 = .ok (.invokevirtual 80, 3) := by decide +kernel
theorem dX2_paintBlock_70 : decode cX2_paintBlock 70 = .ok (.aload_n 1, 1) := by decide +kernel
theorem dX2_paintBlock_71 : decode cX2_paintBlock 71 = .ok (.iload 6, 2) := by decide +kernel
theorem dX2_paintBlock_73 : decode cX2_paintBlock 73 = .ok (.invokevirtual 83, 3) := by decide +kernel
theorem dX2_paintBlock_76 : decode cX2_paintBlock 76 = .ok (.invokestatic 86, 3) := by decide +kernel
theorem dX2_paintBlock_79 : decode cX2_paintBlock 79 = .ok (.istore 10, 2) := by decide +kernel
theorem dX2_paintBlock_81 : decode cX2_paintBlock 81 = .ok (.aload 5, 2) := by decide +kernel
theorem dX2_paintBlock_83 : decode cX2_paintBlock 83 = .ok (.iload 8, 2) := by decide +kernel
theorem dX2_paintBlock_85 : decode cX2_paintBlock 85 = .ok (.iload 9, 2) := by decide +kernel
theorem dX2_paintBlock_87 : decode cX2_paintBlock 87 = .ok (.iload 10, 2) := by decide +kernel
theorem dX2_paintBlock_89 : decode cX2_paintBlock 89 = .ok (.aload_n 0, 1) := by decide +kernel
theorem dX2_paintBlock_90 : decode cX2_paintBlock 90 = .ok (.getfield 18, 3) := by decide +kernel
theorem dX2_paintBlock_93 : decode cX2_paintBlock 93 = .ok (.iload 7, 2) := by decide +kernel
theorem dX2_paintBlock_95 : decode cX2_paintBlock 95 = .ok (.iaload, 1) := by decide +kernel
theorem dX2_paintBlock_96 : decode cX2_paintBlock 96 = .ok (.iadd, 1) := by decide +kernel
theorem dX2_paintBlock_97 : decode cX2_paintBlock 97 = .ok (.invokevirtual 90, 3) := by decide +kernel
theorem dX2_paintBlock_100 : decode cX2_paintBlock 100 = .ok (.iinc 7 1, 3) := by decide +kernel
theorem dX2_paintBlock_103 : decode cX2_paintBlock 103 = .ok (.goto (-92), 3) := by decide +kernel
theorem dX2_paintBlock_106 : decode cX2_paintBlock 106 = .ok (.return_, 1) := by decide +kernel
set_option maxRecDepth 100000 in
theorem ggX2_moved_X3_at : GoodIn wsX2_moved wsX3_at := goodIn_r _ [5, 6, 7, 8, 9, 10, 11, 12, 13, 14, 15, 16, 17, 18, 19, 20, 21] rfl (by decide +kernel)
set_option maxRecDepth 100000 in
theorem gX2_moved_X3_at : GoodIn wsX2_moved (wsV RX2 94 RX3 yX3_at wsX3_at) := goodIn_app (goodIn_of _ (by decide +kernel)) ggX2_moved_X3_at
theorem dX2_moved_0 : decode cX2_moved 0 = .ok (.aload_n 0, 1) := by decide +kernel
theorem dX2_moved_1 : decode cX2_moved 1 = .ok (.iload_n 1, 1) := by decide +kernel
theorem dX2_moved_2 : decode cX2_moved 2 = .ok (.iload_n 3, 1) := by decide +kernel
theorem dX2_moved_3 : decode cX2_moved 3 = .ok (.iconst 1, 1) := by decide +kernel
theorem dX2_moved_4 : decode cX2_moved 4 = .ok (.ishr, 1) := by decide +kernel
theorem dX2_moved_5 : decode cX2_moved 5 = .ok (.iadd, 1) := by decide +kernel
theorem dX2_moved_6 : decode cX2_moved 6 = .ok (.iload_n 2, 1) := by decide +kernel
theorem dX2_moved_7 : decode cX2_moved 7 = .ok (.iload 4, 2) := by decide +kernel
theorem dX2_moved_9 : decode cX2_moved 9 = .ok (.iconst 1, 1) := by decide +kernel
theorem dX2_moved_10 : decode cX2_moved 10 = .ok (.ishr, 1) := by decide +kernel
theorem dX2_moved_11 : decode cX2_moved 11 = .ok (.iadd, 1) := by decide +kernel
theorem dX2_moved_12 : decode cX2_moved 12 = .ok (.invokevirtual 94, 3) := by decide +kernel
theorem dX2_moved_15 : decode cX2_moved 15 = .ok (.istore 5, 2) := by decide +kernel
theorem dX2_moved_17 : decode cX2_moved 17 = .ok (.aload_n 0, 1) := by decide +kernel
theorem dX2_moved_18 : decode cX2_moved 18 = .ok (.iload_n 1, 1) := by decide +kernel
theorem dX2_moved_19 : decode cX2_moved 19 = .ok (.iload_n 3, 1) := by decide +kernel
theorem dX2_moved_20 : decode cX2_moved 20 = .ok (.iconst 1, 1) := by decide +kernel
theorem dX2_moved_21 : decode cX2_moved 21 = .ok (.iadd, 1) := by decide +kernel
theorem dX2_moved_22 : decode cX2_moved 22 = .ok (.iconst 1, 1) := by decide +kernel
theorem dX2_moved_23 : decode cX2_moved 23 = .ok (.ishr, 1) := by decide +kernel
theorem dX2_moved_24 : decode cX2_moved 24 = .ok (.iadd, 1) := by decide +kernel
theorem dX2_moved_25 : decode cX2_moved 25 = .ok (.iload_n 2, 1) := by decide +kernel
theorem dX2_moved_26 : decode cX2_moved 26 = .ok (.iload 4, 2) := by decide +kernel
theorem dX2_moved_28 : decode cX2_moved 28 = .ok (.iconst 1, 1) := by decide +kernel
theorem dX2_moved_29 : decode cX2_moved 29 = .ok (.iadd, 1) := by decide +kernel
theorem dX2_moved_30 : decode cX2_moved 30 = .ok (.iconst 1, 1) := by decide +kernel
theorem dX2_moved_31 : decode cX2_moved 31 = .ok (.ishr, 1) := by decide +kernel
theorem dX2_moved_32 : decode cX2_moved 32 = .ok (.iadd, 1) := by decide +kernel
theorem dX2_moved_33 : decode cX2_moved 33 = .ok (.invokevirtual 94, 3) := by decide +kernel
theorem dX2_moved_36 : decode cX2_moved 36 = .ok (.istore 6, 2) := by decide +kernel
theorem dX2_moved_38 : decode cX2_moved 38 = .ok (.iload 5, 2) := by decide +kernel
theorem dX2_moved_40 : decode cX2_moved 40 = .ok (.iload 6, 2) := by decide +kernel
theorem dX2_moved_42 : decode cX2_moved 42 = .ok (.iadd, 1) := by decide +kernel
theorem dX2_moved_43 : decode cX2_moved 43 = .ok (.iconst 2, 1) := by decide +kernel
theorem dX2_moved_44 : decode cX2_moved 44 = .ok (.idiv, 1) := by decide +kernel
theorem dX2_moved_45 : decode cX2_moved 45 = .ok (.ireturn, 1) := by decide +kernel
set_option maxRecDepth 100000 in
theorem ggX2_makeAdded_X0_number : GoodIn wsX2_makeAdded wsX0_number := goodIn_r _ [8, 9, 53, 54, 55, 56, 57, 58, 59, 60, 61, 62, 63, 64] rfl (by decide +kernel)
set_option maxRecDepth 100000 in
theorem gX2_makeAdded_X0_number : GoodIn wsX2_makeAdded (wsV RX2 97 RX0 yX0_number wsX0_number) := goodIn_app (goodIn_of _ (by decide +kernel)) ggX2_makeAdded_X0_number
set_option maxRecDepth 100000 in
theorem ggX2_makeAdded_X0_scale : GoodIn wsX2_makeAdded wsX0_scale := goodIn_r _ [13, 14, 53, 54, 55, 56, 57, 58, 59, 60, 61, 62, 63, 64] rfl (by decide +kernel)
set_option maxRecDepth 100000 in
theorem gX2_makeAdded_X0_scale : GoodIn wsX2_makeAdded (wsV RX2 100 RX0 yX0_scale wsX0_scale) := goodIn_app (goodIn_of _ (by decide +kernel)) ggX2_makeAdded_X0_scale
set_option maxRecDepth 100000 in
theorem ggX2_makeAdded_X1_factor : GoodIn wsX2_makeAdded wsX1_factor := goodIn_r _ [19, 20, 21, 22, 23, 24, 25, 26, 27, 28, 29, 30, 31, 65, 66, 67, 68, 69, 70, 71, 72] rfl (by decide +kernel)
set_option maxRecDepth 100000 in
theorem gX2_makeAdded_X1_factor : GoodIn wsX2_makeAdded (wsV RX2 103 RX1 yX1_factor wsX1_factor) := goodIn_app (goodIn_of _ (by decide +kernel)) ggX2_makeAdded_X1_factor
set_option maxRecDepth 100000 in
theorem ggX2_makeAdded_X6_bring : GoodIn wsX2_makeAdded wsX6_bring := goodIn_r _ [24, 25, 26, 27, 28, 29, 30, 31] rfl (by decide +kernel)
set_option maxRecDepth 100000 in
theorem gX2_makeAdded_X6_bring_n106 : GoodIn wsX2_makeAdded (wsX6_bring) := ggX2_makeAdded_X6_bring
set_option maxRecDepth 100000 in
theorem ggX2_makeAdded_X2_sumWaves : GoodIn wsX2_makeAdded wsX2_sumWaves := goodIn_r _ [36, 37, 38, 39, 40, 35, 41, 42, 43, 44, 45, 46, 47, 48, 49, 50, 51, 52] rfl (by decide +kernel)
set_option maxRecDepth 100000 in
theorem gX2_makeAdded_X2_sumWaves : GoodIn wsX2_makeAdded (wsV RX2 110 RX2 yX2_sumWaves wsX2_sumWaves) := goodIn_app (goodIn_of _ (by decide +kernel)) ggX2_makeAdded_X2_sumWaves
theorem dX2_makeAdded_0 : decode cX2_makeAdded 0 = .ok (.iconst 0, 1) := by decide +kernel
theorem dX2_makeAdded_1 : decode cX2_makeAdded 1 = .ok (.istore 4, 2) := by decide +kernel
theorem dX2_makeAdded_3 : decode cX2_makeAdded 3 = .ok (.iload 4, 2) := by decide +kernel
theorem dX2_makeAdded_5 : decode cX2_makeAdded 5 = .ok (.bipush 64, 2) := by decide +kernel
theorem dX2_makeAdded_7 : decode cX2_makeAdded 7 = .ok (.if_icmp .ge 52, 3) := by decide +kernel
theorem dX2_makeAdded_10 : decode cX2_makeAdded 10 = .ok (.aload_n 1, 1) := by decide +kernel
theorem dX2_makeAdded_11 : decode cX2_makeAdded 11 = .ok (.iload_n 3, 1) := by decide +kernel
theorem dX2_makeAdded_12 : decode cX2_makeAdded 12 = .ok (.iload 4, 2) := by decide +kernel
theorem dX2_makeAdded_14 : decode cX2_makeAdded 14 = .ok (.invokevirtual 97, 3) := by decide +kernel
theorem dX2_makeAdded_17 : decode cX2_makeAdded 17 = .ok (.aload_n 2, 1) := by decide +kernel
theorem dX2_makeAdded_18 : decode cX2_makeAdded 18 = .ok (.aload_n 1, 1) := by decide +kernel
theorem dX2_makeAdded_19 : decode cX2_makeAdded 19 = .ok (.invokevirtual 100, 3) := by decide +kernel
theorem dX2_makeAdded_22 : decode cX2_makeAdded 22 = .ok (.iload 4, 2) := by decide +kernel
theorem dX2_makeAdded_24 : decode cX2_makeAdded 24 = .ok (.invokevirtual 103, 3) := by decide +kernel
theorem dX2_makeAdded_27 : decode cX2_makeAdded 27 = .ok (.imul, 1) := by decide +kernel
theorem dX2_makeAdded_28 : decode cX2_makeAdded 28 = .ok (.istore 5, 2) := by decide +kernel
theorem dX2_makeAdded_30 : decode cX2_makeAdded 30 = .ok (.aload_n 0, 1) := by decide +kernel
theorem dX2_makeAdded_31 : decode cX2_makeAdded 31 = .ok (.getfield 18, 3) := by decide +kernel
theorem dX2_makeAdded_34 : decode cX2_makeAdded 34 = .ok (.aload_n 0, 1) := by decide +kernel
theorem dX2_makeAdded_35 : decode cX2_makeAdded 35 = .ok (.getfield 9, 3) := by decide +kernel
theorem dX2_makeAdded_38 : decode cX2_makeAdded 38 = .ok (.iload 4, 2) := by decide +kernel
theorem dX2_makeAdded_40 : decode cX2_makeAdded 40 = .ok (.iaload, 1) := by decide +kernel
theorem dX2_makeAdded_41 : decode cX2_makeAdded 41 = .ok (.iload 5, 2) := by decide +kernel
theorem dX2_makeAdded_43 : decode cX2_makeAdded 43 = .ok (.sipush (-32768), 3) := by decide +kernel
theorem dX2_makeAdded_46 : decode cX2_makeAdded 46 = .ok (.sipush 32767, 3) := by decide +kernel
theorem dX2_makeAdded_49 : decode cX2_makeAdded 49 = .ok (.invokestatic 106, 3) := by decide +kernel
theorem dX2_makeAdded_52 : decode cX2_makeAdded 52 = .ok (.iastore, 1) := by decide +kernel
theorem dX2_makeAdded_53 : decode cX2_makeAdded 53 = .ok (.iinc 4 1, 3) := by decide +kernel
theorem dX2_makeAdded_56 : decode cX2_makeAdded 56 = .ok (.goto (-53), 3) := by decide +kernel
theorem dX2_makeAdded_59 : decode cX2_makeAdded 59 = .ok (.aload_n 0, 1) := by decide +kernel
theorem dX2_makeAdded_60 : decode cX2_makeAdded 60 = .ok (.aload_n 0, 1) := by decide +kernel
theorem dX2_makeAdded_61 : decode cX2_makeAdded 61 = .ok (.getfield 18, 3) := by decide +kernel
theorem dX2_makeAdded_64 : decode cX2_makeAdded 64 = .ok (.aload_n 0, 1) := by decide +kernel
theorem dX2_makeAdded_65 : decode cX2_makeAdded 65 = .ok (.getfield 21, 3) := by decide +kernel
theorem dX2_makeAdded_68 : decode cX2_makeAdded 68 = .ok (.invokevirtual 110, 3) := by decide +kernel
theorem dX2_makeAdded_71 : decode cX2_makeAdded 71 = .ok (.aload_n 0, 1) := by decide +kernel
theorem dX2_makeAdded_72 : decode cX2_makeAdded 72 = .ok (.aload_n 0, 1) := by decide +kernel
theorem dX2_makeAdded_73 : decode cX2_makeAdded 73 = .ok (.getfield 21, 3) := by decide +kernel
theorem dX2_makeAdded_76 : decode cX2_makeAdded 76 = .ok (.aload_n 0, 1) := by decide +kernel
theorem dX2_makeAdded_77 : decode cX2_makeAdded 77 = .ok (.getfield 18, 3) := by decide +kernel
theorem dX2_makeAdded_80 : decode cX2_makeAdded 80 = .ok (.invokevirtual 110, 3) := by decide +kernel
theorem dX2_makeAdded_83 : decode cX2_makeAdded 83 = .ok (.return_, 1) := by decide +kernel
set_option maxRecDepth 100000 in
theorem ggX2_sumWaves_X2_sumRow : GoodIn wsX2_sumWaves wsX2_sumRow := goodIn_r _ [6, 1, 7, 8, 9, 10, 11, 12, 13, 14, 15, 16, 17] rfl (by decide +kernel)
set_option maxRecDepth 100000 in
theorem gX2_sumWaves_X2_sumRow : GoodIn wsX2_sumWaves (wsV RX2 114 RX2 yX2_sumRow wsX2_sumRow) := goodIn_app (goodIn_of _ (by decide +kernel)) ggX2_sumWaves_X2_sumRow
theorem dX2_sumWaves_0 : decode cX2_sumWaves 0 = .ok (.iconst 0, 1) := by decide +kernel
theorem dX2_sumWaves_1 : decode cX2_sumWaves 1 = .ok (.istore_n 3, 1) := by decide +kernel
theorem dX2_sumWaves_2 : decode cX2_sumWaves 2 = .ok (.iload_n 3, 1) := by decide +kernel
theorem dX2_sumWaves_3 : decode cX2_sumWaves 3 = .ok (.bipush 8, 2) := by decide +kernel
theorem dX2_sumWaves_5 : decode cX2_sumWaves 5 = .ok (.if_icmp .ge 54, 3) := by decide +kernel
theorem dX2_sumWaves_8 : decode cX2_sumWaves 8 = .ok (.aload_n 0, 1) := by decide +kernel
theorem dX2_sumWaves_9 : decode cX2_sumWaves 9 = .ok (.aload_n 1, 1) := by decide +kernel
theorem dX2_sumWaves_10 : decode cX2_sumWaves 10 = .ok (.iload_n 3, 1) := by decide +kernel
theorem dX2_sumWaves_11 : decode cX2_sumWaves 11 = .ok (.bipush 8, 2) := by decide +kernel
theorem dX2_sumWaves_13 : decode cX2_sumWaves 13 = .ok (.imul, 1) := by decide +kernel
theorem dX2_sumWaves_14 : decode cX2_sumWaves 14 = .ok (.invokevirtual 114, 3) := by decide +kernel
theorem dX2_sumWaves_17 : decode cX2_sumWaves 17 = .ok (.iconst 0, 1) := by decide +kernel
theorem dX2_sumWaves_18 : decode cX2_sumWaves 18 = .ok (.istore 4, 2) := by decide +kernel
theorem dX2_sumWaves_20 : decode cX2_sumWaves 20 = .ok (.iload 4, 2) := by decide +kernel
theorem dX2_sumWaves_22 : decode cX2_sumWaves 22 = .ok (.bipush 8, 2) := by decide +kernel
theorem dX2_sumWaves_24 : decode cX2_sumWaves 24 = .ok (.if_icmp .ge 29, 3) := by decide +kernel
theorem dX2_sumWaves_27 : decode cX2_sumWaves 27 = .ok (.aload_n 2, 1) := by decide +kernel
theorem dX2_sumWaves_28 : decode cX2_sumWaves 28 = .ok (.iload 4, 2) := by decide +kernel
theorem dX2_sumWaves_30 : decode cX2_sumWaves 30 = .ok (.bipush 8, 2) := by decide +kernel
theorem dX2_sumWaves_32 : decode cX2_sumWaves 32 = .ok (.imul, 1) := by decide +kernel
theorem dX2_sumWaves_33 : decode cX2_sumWaves 33 = .ok (.iload_n 3, 1) := by decide +kernel
theorem dX2_sumWaves_34 : decode cX2_sumWaves 34 = .ok (.iadd, 1) := by decide +kernel
theorem dX2_sumWaves_35 : decode cX2_sumWaves 35 = .ok (.aload_n 0, 1) := by decide +kernel
theorem dX2_sumWaves_36 : decode cX2_sumWaves 36 = .ok (.getfield 24, 3) := by decide +kernel
theorem dX2_sumWaves_39 : decode cX2_sumWaves 39 = .ok (.iload 4, 2) := by decide +kernel
theorem dX2_sumWaves_41 : decode cX2_sumWaves 41 = .ok (.laload, 1) := by decide +kernel
theorem dX2_sumWaves_42 : decode cX2_sumWaves 42 = .ok (.bipush 15, 2) := by decide +kernel
theorem dX2_sumWaves_44 : decode cX2_sumWaves 44 = .ok (.lshr, 1) := by decide +kernel
theorem dX2_sumWaves_45 : decode cX2_sumWaves 45 = .ok (.l2i, 1) := by decide +kernel
theorem dX2_sumWaves_46 : decode cX2_sumWaves 46 = .ok (.iastore, 1) := by decide +kernel
theorem dX2_sumWaves_47 : decode cX2_sumWaves 47 = .ok (.iinc 4 1, 3) := by decide +kernel
theorem dX2_sumWaves_50 : decode cX2_sumWaves 50 = .ok (.goto (-30), 3) := by decide +kernel
theorem dX2_sumWaves_53 : decode cX2_sumWaves 53 = .ok (.iinc 3 1, 3) := by decide +kernel
theorem dX2_sumWaves_56 : decode cX2_sumWaves 56 = .ok (.goto (-54), 3) := by decide +kernel
theorem dX2_sumWaves_59 : decode cX2_sumWaves 59 = .ok (.return_, 1) := by decide +kernel
set_option maxRecDepth 100000 in
theorem ggX2_sumRow_J7_fill_d0a16 : GoodIn wsX2_sumRow wsJ7_fill_d0a16 := goodIn_r _ [7] rfl (by decide +kernel)
set_option maxRecDepth 100000 in
theorem gX2_sumRow_J7_fill_d0a16 : GoodIn wsX2_sumRow (va_wsS RX2 120 yJ7_fill_d0a16 wsJ7_fill_d0a16) := goodIn_app (goodIn_of _ (by decide +kernel)) ggX2_sumRow_J7_fill_d0a16
theorem dX2_sumRow_0 : decode cX2_sumRow 0 = .ok (.aload_n 0, 1) := by decide +kernel
theorem dX2_sumRow_1 : decode cX2_sumRow 1 = .ok (.getfield 24, 3) := by decide +kernel
theorem dX2_sumRow_4 : decode cX2_sumRow 4 = .ok (.ldc2_w 118, 3) := by decide +kernel
theorem dX2_sumRow_7 : decode cX2_sumRow 7 = .ok (.invokestatic 120, 3) := by decide +kernel
theorem dX2_sumRow_10 : decode cX2_sumRow 10 = .ok (.iconst 0, 1) := by decide +kernel
theorem dX2_sumRow_11 : decode cX2_sumRow 11 = .ok (.istore_n 3, 1) := by decide +kernel
theorem dX2_sumRow_12 : decode cX2_sumRow 12 = .ok (.iload_n 3, 1) := by decide +kernel
theorem dX2_sumRow_13 : decode cX2_sumRow 13 = .ok (.bipush 8, 2) := by decide +kernel
theorem dX2_sumRow_15 : decode cX2_sumRow 15 = .ok (.if_icmp .ge 66, 3) := by decide +kernel
theorem dX2_sumRow_18 : decode cX2_sumRow 18 = .ok (.aload_n 1, 1) := by decide +kernel
theorem dX2_sumRow_19 : decode cX2_sumRow 19 = .ok (.iload_n 2, 1) := by decide +kernel
theorem dX2_sumRow_20 : decode cX2_sumRow 20 = .ok (.iload_n 3, 1) := by decide +kernel
theorem dX2_sumRow_21 : decode cX2_sumRow 21 = .ok (.iadd, 1) := by decide +kernel
theorem dX2_sumRow_22 : decode cX2_sumRow 22 = .ok (.iaload, 1) := by decide +kernel
theorem dX2_sumRow_23 : decode cX2_sumRow 23 = .ok (.i2l, 1) := by decide +kernel
theorem dX2_sumRow_24 : decode cX2_sumRow 24 = .ok (.lstore 4, 2) := by decide +kernel
theorem dX2_sumRow_26 : decode cX2_sumRow 26 = .ok (.lload 4, 2) := by decide +kernel
theorem dX2_sumRow_28 : decode cX2_sumRow 28 = .ok (.lconst 0, 1) := by decide +kernel
theorem dX2_sumRow_29 : decode cX2_sumRow 29 = .ok (.lcmp, 1) := by decide +kernel
theorem dX2_sumRow_30 : decode cX2_sumRow 30 = .ok (.ifCond .eq 45, 3) := by decide +kernel
theorem dX2_sumRow_33 : decode cX2_sumRow 33 = .ok (.iconst 0, 1) := by decide +kernel
theorem dX2_sumRow_34 : decode cX2_sumRow 34 = .ok (.istore 6, 2) := by decide +kernel
theorem dX2_sumRow_36 : decode cX2_sumRow 36 = .ok (.iload 6, 2) := by decide +kernel
theorem dX2_sumRow_38 : decode cX2_sumRow 38 = .ok (.bipush 8, 2) := by decide +kernel
theorem dX2_sumRow_40 : decode cX2_sumRow 40 = .ok (.if_icmp .ge 35, 3) := by decide +kernel
theorem dX2_sumRow_43 : decode cX2_sumRow 43 = .ok (.aload_n 0, 1) := by decide +kernel
theorem dX2_sumRow_44 : decode cX2_sumRow 44 = .ok (.getfield 24, 3) := by decide +kernel
theorem dX2_sumRow_47 : decode cX2_sumRow 47 = .ok (.iload 6, 2) := by decide +kernel
theorem dX2_sumRow_49 : decode cX2_sumRow 49 = .ok (.dup2, 1) := by decide +kernel
theorem dX2_sumRow_50 : decode cX2_sumRow 50 = .ok (.laload, 1) := by decide +kernel
theorem dX2_sumRow_51 : decode cX2_sumRow 51 = .ok (.aload_n 0, 1) := by decide +kernel
theorem dX2_sumRow_52 : decode cX2_sumRow 52 = .ok (.getfield 15, 3) := by decide +kernel
theorem dX2_sumRow_55 : decode cX2_sumRow 55 = .ok (.iload 6, 2) := by decide +kernel
theorem dX2_sumRow_57 : decode cX2_sumRow 57 = .ok (.bipush 8, 2) := by decide +kernel
theorem dX2_sumRow_59 : decode cX2_sumRow 59 = .ok (.imul, 1) := by decide +kernel
theorem dX2_sumRow_60 : decode cX2_sumRow 60 = .ok (.iload_n 3, 1) := by decide +kernel
theorem dX2_sumRow_61 : decode cX2_sumRow 61 = .ok (.iadd, 1) := by decide +kernel
theorem dX2_sumRow_62 : decode cX2_sumRow 62 = .ok (.iaload, 1) := by decide +kernel
theorem dX2_sumRow_63 : decode cX2_sumRow 63 = .ok (.i2l, 1) := by decide +kernel
theorem dX2_sumRow_64 : decode cX2_sumRow 64 = .ok (.lload 4, 2) := by decide +kernel
theorem dX2_sumRow_66 : decode cX2_sumRow 66 = .ok (.lmul, 1) := by decide +kernel
theorem dX2_sumRow_67 : decode cX2_sumRow 67 = .ok (.ladd, 1) := by decide +kernel
theorem dX2_sumRow_68 : decode cX2_sumRow 68 = .ok (.lastore, 1) := by decide +kernel
theorem dX2_sumRow_69 : decode cX2_sumRow 69 = .ok (.iinc 6 1, 3) := by decide +kernel
theorem dX2_sumRow_72 : decode cX2_sumRow 72 = .ok (.goto (-36), 3) := by decide +kernel
theorem dX2_sumRow_75 : decode cX2_sumRow 75 = .ok (.iinc 3 1, 3) := by decide +kernel
theorem dX2_sumRow_78 : decode cX2_sumRow 78 = .ok (.goto (-66), 3) := by decide +kernel
theorem dX2_sumRow_81 : decode cX2_sumRow 81 = .ok (.return_, 1) := by decide +kernel
theorem dX3_init_0 : decode cX3_init 0 = .ok (.aload_n 0, 1) := by decide +kernel
theorem dX3_init_1 : decode cX3_init 1 = .ok (.invokespecial 3, 3) := by decide +kernel
theorem dX3_init_4 : decode cX3_init 4 = .ok (.aload_n 0, 1) := by decide +kernel
theorem dX3_init_5 : decode cX3_init 5 = .ok (.sipush 2304, 3) := by decide +kernel
theorem dX3_init_8 : decode cX3_init 8 = .ok (.newarray .int, 2) := by decide +kernel
theorem dX3_init_10 : decode cX3_init 10 = .ok (.putfield 9, 3) := by decide +kernel
theorem dX3_init_13 : decode cX3_init 13 = .ok (.return_, 1) := by decide +kernel
theorem dX3_setSize_0 : decode cX3_setSize 0 = .ok (.aload_n 0, 1) := by decide +kernel
theorem dX3_setSize_1 : decode cX3_setSize 1 = .ok (.iload_n 1, 1) := by decide +kernel
theorem dX3_setSize_2 : decode cX3_setSize 2 = .ok (.bipush 8, 2) := by decide +kernel
theorem dX3_setSize_4 : decode cX3_setSize 4 = .ok (.imul, 1) := by decide +kernel
theorem dX3_setSize_5 : decode cX3_setSize 5 = .ok (.putfield 15, 3) := by decide +kernel
theorem dX3_setSize_8 : decode cX3_setSize 8 = .ok (.aload_n 0, 1) := by decide +kernel
theorem dX3_setSize_9 : decode cX3_setSize 9 = .ok (.iload_n 2, 1) := by decide +kernel
theorem dX3_setSize_10 : decode cX3_setSize 10 = .ok (.bipush 8, 2) := by decide +kernel
theorem dX3_setSize_12 : decode cX3_setSize 12 = .ok (.imul, 1) := by decide +kernel
theorem dX3_setSize_13 : decode cX3_setSize 13 = .ok (.putfield 19, 3) := by decide +kernel
theorem dX3_setSize_16 : decode cX3_setSize 16 = .ok (.return_, 1) := by decide +kernel
theorem dX3_has_0 : decode cX3_has 0 = .ok (.iload_n 1, 1) := by decide +kernel
theorem dX3_has_1 : decode cX3_has 1 = .ok (.ifCond .lt 27, 3) := by decide +kernel
theorem dX3_has_4 : decode cX3_has 4 = .ok (.iload_n 1, 1) := by decide +kernel
theorem dX3_has_5 : decode cX3_has 5 = .ok (.aload_n 0, 1) := by decide +kernel
theorem dX3_has_6 : decode cX3_has 6 = .ok (.getfield 15, 3) := by decide +kernel
theorem dX3_has_9 : decode cX3_has 9 = .ok (.if_icmp .ge 19, 3) := by decide +kernel
theorem dX3_has_12 : decode cX3_has 12 = .ok (.iload_n 2, 1) := by decide +kernel
theorem dX3_has_13 : decode cX3_has 13 = .ok (.ifCond .lt 15, 3) := by decide +kernel
theorem dX3_has_16 : decode cX3_has 16 = .ok (.iload_n 2, 1) := by decide +kernel
theorem dX3_has_17 : decode cX3_has 17 = .ok (.aload_n 0, 1) := by decide +kernel
theorem dX3_has_18 : decode cX3_has 18 = .ok (.getfield 19, 3) := by decide +kernel
theorem dX3_has_21 : decode cX3_has 21 = .ok (.if_icmp .ge 7, 3) := by decide +kernel
theorem dX3_has_24 : decode cX3_has 24 = .ok (.iconst 1, 1) := by decide +kernel
theorem dX3_has_25 : decode cX3_has 25 = .ok (.goto 4, 3) := by decide +kernel
theorem dX3_has_28 : decode cX3_has 28 = .ok (.iconst 0, 1) := by decide +kernel
theorem dX3_has_29 : decode cX3_has 29 = .ok (.ireturn, 1) := by decide +kernel
set_option maxRecDepth 100000 in
theorem ggX3_at_X6_bring : GoodIn wsX3_at wsX6_bring := goodIn_r _ [6, 7, 8, 9, 10, 11, 12, 13] rfl (by decide +kernel)
set_option maxRecDepth 100000 in
theorem gX3_at_X6_bring_n22 : GoodIn wsX3_at (wsX6_bring) := ggX3_at_X6_bring
theorem dX3_at_0 : decode cX3_at 0 = .ok (.aload_n 0, 1) := by decide +kernel
theorem dX3_at_1 : decode cX3_at 1 = .ok (.getfield 9, 3) := by decide +kernel
theorem dX3_at_4 : decode cX3_at 4 = .ok (.iload_n 2, 1) := by decide +kernel
theorem dX3_at_5 : decode cX3_at 5 = .ok (.iconst 0, 1) := by decide +kernel
theorem dX3_at_6 : decode cX3_at 6 = .ok (.aload_n 0, 1) := by decide +kernel
theorem dX3_at_7 : decode cX3_at 7 = .ok (.getfield 19, 3) := by decide +kernel
theorem dX3_at_10 : decode cX3_at 10 = .ok (.iconst 1, 1) := by decide +kernel
theorem dX3_at_11 : decode cX3_at 11 = .ok (.isub, 1) := by decide +kernel
theorem dX3_at_12 : decode cX3_at 12 = .ok (.invokestatic 22, 3) := by decide +kernel
theorem dX3_at_15 : decode cX3_at 15 = .ok (.aload_n 0, 1) := by decide +kernel
theorem dX3_at_16 : decode cX3_at 16 = .ok (.getfield 15, 3) := by decide +kernel
theorem dX3_at_19 : decode cX3_at 19 = .ok (.imul, 1) := by decide +kernel
theorem dX3_at_20 : decode cX3_at 20 = .ok (.iload_n 1, 1) := by decide +kernel
theorem dX3_at_21 : decode cX3_at 21 = .ok (.iconst 0, 1) := by decide +kernel
theorem dX3_at_22 : decode cX3_at 22 = .ok (.aload_n 0, 1) := by decide +kernel
theorem dX3_at_23 : decode cX3_at 23 = .ok (.getfield 15, 3) := by decide +kernel
theorem dX3_at_26 : decode cX3_at 26 = .ok (.iconst 1, 1) := by decide +kernel
theorem dX3_at_27 : decode cX3_at 27 = .ok (.isub, 1) := by decide +kernel
theorem dX3_at_28 : decode cX3_at 28 = .ok (.invokestatic 22, 3) := by decide +kernel
theorem dX3_at_31 : decode cX3_at 31 = .ok (.iadd, 1) := by decide +kernel
theorem dX3_at_32 : decode cX3_at 32 = .ok (.iaload, 1) := by decide +kernel
theorem dX3_at_33 : decode cX3_at 33 = .ok (.ireturn, 1) := by decide +kernel
set_option maxRecDepth 100000 in
theorem ggX3_put_X6_bring : GoodIn wsX3_put wsX6_bring := goodIn_r _ [5, 6, 7, 8, 9, 10, 11, 12] rfl (by decide +kernel)
set_option maxRecDepth 100000 in
theorem gX3_put_X6_bring_n22 : GoodIn wsX3_put (wsX6_bring) := ggX3_put_X6_bring
theorem dX3_put_0 : decode cX3_put 0 = .ok (.aload_n 0, 1) := by decide +kernel
theorem dX3_put_1 : decode cX3_put 1 = .ok (.getfield 9, 3) := by decide +kernel
theorem dX3_put_4 : decode cX3_put 4 = .ok (.iload_n 2, 1) := by decide +kernel
theorem dX3_put_5 : decode cX3_put 5 = .ok (.aload_n 0, 1) := by decide +kernel
theorem dX3_put_6 : decode cX3_put 6 = .ok (.getfield 15, 3) := by decide +kernel
theorem dX3_put_9 : decode cX3_put 9 = .ok (.imul, 1) := by decide +kernel
theorem dX3_put_10 : decode cX3_put 10 = .ok (.iload_n 1, 1) := by decide +kernel
theorem dX3_put_11 : decode cX3_put 11 = .ok (.iadd, 1) := by decide +kernel
theorem dX3_put_12 : decode cX3_put 12 = .ok (.iload_n 3, 1) := by decide +kernel
theorem dX3_put_13 : decode cX3_put 13 = .ok (.iconst 0, 1) := by decide +kernel
theorem dX3_put_14 : decode cX3_put 14 = .ok (.sipush 255, 3) := by decide +kernel
theorem dX3_put_17 : decode cX3_put 17 = .ok (.invokestatic 22, 3) := by decide +kernel
theorem dX3_put_20 : decode cX3_put 20 = .ok (.iastore, 1) := by decide +kernel
theorem dX3_put_21 : decode cX3_put 21 = .ok (.return_, 1) := by decide +kernel
theorem dX3_copyFrom_0 : decode cX3_copyFrom 0 = .ok (.aload_n 0, 1) := by decide +kernel
theorem dX3_copyFrom_1 : decode cX3_copyFrom 1 = .ok (.aload_n 1, 1) := by decide +kernel
theorem dX3_copyFrom_2 : decode cX3_copyFrom 2 = .ok (.getfield 15, 3) := by decide +kernel
theorem dX3_copyFrom_5 : decode cX3_copyFrom 5 = .ok (.putfield 15, 3) := by decide +kernel
theorem dX3_copyFrom_8 : decode cX3_copyFrom 8 = .ok (.aload_n 0, 1) := by decide +kernel
theorem dX3_copyFrom_9 : decode cX3_copyFrom 9 = .ok (.aload_n 1, 1) := by decide +kernel
theorem dX3_copyFrom_10 : decode cX3_copyFrom 10 = .ok (.getfield 19, 3) := by decide +kernel
theorem dX3_copyFrom_13 : decode cX3_copyFrom 13 = .ok (.putfield 19, 3) := by decide +kernel
theorem dX3_copyFrom_16 : decode cX3_copyFrom 16 = .ok (.aload_n 1, 1) := by decide +kernel
theorem dX3_copyFrom_17 : decode cX3_copyFrom 17 = .ok (.getfield 9, 3) := by decide +kernel
theorem dX3_copyFrom_20 : decode cX3_copyFrom 20 = .ok (.iconst 0, 1) := by decide +kernel
theorem dX3_copyFrom_21 : decode cX3_copyFrom 21 = .ok (.aload_n 0, 1) := by decide +kernel
theorem dX3_copyFrom_22 : decode cX3_copyFrom 22 = .ok (.getfield 9, 3) := by decide +kernel
theorem dX3_copyFrom_25 : decode cX3_copyFrom 25 = .ok (.iconst 0, 1) := by decide +kernel
theorem dX3_copyFrom_26 : decode cX3_copyFrom 26 = .ok (.sipush 2304, 3) := by decide +kernel
theorem dX3_copyFrom_29 : decode cX3_copyFrom 29 = .ok (.invokestatic 26, 3) := by decide +kernel
theorem dX3_copyFrom_32 : decode cX3_copyFrom 32 = .ok (.return_, 1) := by decide +kernel
theorem dX3_total_0 : decode cX3_total 0 = .ok (.iconst 0, 1) := by decide +kernel
theorem dX3_total_1 : decode cX3_total 1 = .ok (.istore_n 1, 1) := by decide +kernel
theorem dX3_total_2 : decode cX3_total 2 = .ok (.iconst 0, 1) := by decide +kernel
theorem dX3_total_3 : decode cX3_total 3 = .ok (.istore_n 2, 1) := by decide +kernel
theorem dX3_total_4 : decode cX3_total 4 = .ok (.iload_n 2, 1) := by decide +kernel
theorem dX3_total_5 : decode cX3_total 5 = .ok (.aload_n 0, 1) := by decide +kernel
theorem dX3_total_6 : decode cX3_total 6 = .ok (.getfield 15, 3) := by decide +kernel
theorem dX3_total_9 : decode cX3_total 9 = .ok (.aload_n 0, 1) := by decide +kernel
theorem dX3_total_10 : decode cX3_total 10 = .ok (.getfield 19, 3) := by decide +kernel
theorem dX3_total_13 : decode cX3_total 13 = .ok (.imul, 1) := by decide +kernel
theorem dX3_total_14 : decode cX3_total 14 = .ok (.if_icmp .ge 21, 3) := by decide +kernel
theorem dX3_total_17 : decode cX3_total 17 = .ok (.bipush 31, 2) := by decide +kernel
theorem dX3_total_19 : decode cX3_total 19 = .ok (.iload_n 1, 1) := by decide +kernel
theorem dX3_total_20 : decode cX3_total 20 = .ok (.imul, 1) := by decide +kernel
theorem dX3_total_21 : decode cX3_total 21 = .ok (.aload_n 0, 1) := by decide +kernel
theorem dX3_total_22 : decode cX3_total 22 = .ok (.getfield 9, 3) := by decide +kernel
theorem dX3_total_25 : decode cX3_total 25 = .ok (.iload_n 2, 1) := by decide +kernel
theorem dX3_total_26 : decode cX3_total 26 = .ok (.iaload, 1) := by decide +kernel
theorem dX3_total_27 : decode cX3_total 27 = .ok (.iadd, 1) := by decide +kernel
theorem dX3_total_28 : decode cX3_total 28 = .ok (.istore_n 1, 1) := by decide +kernel
theorem dX3_total_29 : decode cX3_total 29 = .ok (.iinc 2 1, 3) := by decide +kernel
theorem dX3_total_32 : decode cX3_total 32 = .ok (.goto (-28), 3) := by decide +kernel
theorem dX3_total_35 : decode cX3_total 35 = .ok (.iload_n 1, 1) := by decide +kernel
theorem dX3_total_36 : decode cX3_total 36 = .ok (.ireturn, 1) := by decide +kernel
set_option maxRecDepth 100000 in
theorem ggX3_smooth_X0_rows : GoodIn wsX3_smooth wsX0_rows := goodIn_r _ [5, 6, 63, 64, 65, 66, 67, 68, 69, 70, 71, 72, 73, 74] rfl (by decide +kernel)
set_option maxRecDepth 100000 in
theorem gX3_smooth_X0_rows : GoodIn wsX3_smooth (wsV RX3 32 RX0 yX0_rows wsX0_rows) := goodIn_app (goodIn_of _ (by decide +kernel)) ggX3_smooth_X0_rows
set_option maxRecDepth 100000 in
theorem ggX3_smooth_X0_columns : GoodIn wsX3_smooth wsX0_columns := goodIn_r _ [10, 11, 63, 64, 65, 66, 67, 68, 69, 70, 71, 72, 73, 74] rfl (by decide +kernel)
set_option maxRecDepth 100000 in
theorem gX3_smooth_X0_columns : GoodIn wsX3_smooth (wsV RX3 38 RX0 yX0_columns wsX0_columns) := goodIn_app (goodIn_of _ (by decide +kernel)) ggX3_smooth_X0_columns
set_option maxRecDepth 100000 in
theorem ggX3_smooth_X0_index : GoodIn wsX3_smooth wsX0_index := goodIn_r _ [15, 11, 63, 64, 65, 66, 67, 68, 69, 70, 71, 72, 73, 74] rfl (by decide +kernel)
set_option maxRecDepth 100000 in
theorem gX3_smooth_X0_index : GoodIn wsX3_smooth (wsV RX3 41 RX0 yX0_index wsX0_index) := goodIn_app (goodIn_of _ (by decide +kernel)) ggX3_smooth_X0_index
set_option maxRecDepth 100000 in
theorem ggX3_smooth_X0_isCoded : GoodIn wsX3_smooth wsX0_isCoded := goodIn_r _ [19, 20, 63, 64, 65, 66, 67, 68, 69, 70, 71, 72, 73, 74] rfl (by decide +kernel)
set_option maxRecDepth 100000 in
theorem gX3_smooth_X0_isCoded : GoodIn wsX3_smooth (wsV RX3 45 RX0 yX0_isCoded wsX0_isCoded) := goodIn_app (goodIn_of _ (by decide +kernel)) ggX3_smooth_X0_isCoded
set_option maxRecDepth 100000 in
theorem ggX3_smooth_X3_smoothBlock : GoodIn wsX3_smooth wsX3_smoothBlock := goodIn_r _ [25, 26, 27, 28, 24, 29, 30, 31, 32, 33, 34, 35, 36, 37, 38, 39, 40, 41, 42, 43, 44, 45, 46, 47, 48, 49, 50, 51, 52, 53, 54, 55, 56, 57, 58, 59, 60, 61, 4, 62, 11, 6, 12, 13, 14, 15, 16, 17, 18, 19, 20, 75, 76, 77, 63, 64, 65, 66, 67, 68, 69, 70, 71, 72, 73, 74] rfl (by decide +kernel)
set_option maxRecDepth 100000 in
theorem gX3_smooth_X3_smoothBlock : GoodIn wsX3_smooth (wsV RX3 49 RX3 yX3_smoothBlock wsX3_smoothBlock) := goodIn_app (goodIn_of _ (by decide +kernel)) ggX3_smooth_X3_smoothBlock
theorem dX3_smooth_0 : decode cX3_smooth 0 = .ok (.iconst 0, 1) := by decide +kernel
theorem dX3_smooth_1 : decode cX3_smooth 1 = .ok (.istore_n 3, 1) := by decide +kernel
theorem dX3_smooth_2 : decode cX3_smooth 2 = .ok (.iload_n 3, 1) := by decide +kernel
theorem dX3_smooth_3 : decode cX3_smooth 3 = .ok (.aload_n 1, 1) := by decide +kernel
theorem dX3_smooth_4 : decode cX3_smooth 4 = .ok (.invokevirtual 32, 3) := by decide +kernel
theorem dX3_smooth_7 : decode cX3_smooth 7 = .ok (.if_icmp .ge 50, 3) := by decide +kernel
theorem dX3_smooth_10 : decode cX3_smooth 10 = .ok (.iconst 0, 1) := by decide +kernel
theorem dX3_smooth_11 : decode cX3_smooth 11 = .ok (.istore 4, 2) := by decide +kernel
theorem dX3_smooth_13 : decode cX3_smooth 13 = .ok (.iload 4, 2) := by decide +kernel
theorem dX3_smooth_15 : decode cX3_smooth 15 = .ok (.aload_n 1, 1) := by decide +kernel
theorem dX3_smooth_16 : decode cX3_smooth 16 = .ok (.invokevirtual 38, 3) := by decide +kernel
theorem dX3_smooth_19 : decode cX3_smooth 19 = .ok (.if_icmp .ge 32, 3) := by decide +kernel
theorem dX3_smooth_22 : decode cX3_smooth 22 = .ok (.aload_n 1, 1) := by decide +kernel
theorem dX3_smooth_23 : decode cX3_smooth 23 = .ok (.aload_n 1, 1) := by decide +kernel
theorem dX3_smooth_24 : decode cX3_smooth 24 = .ok (.iload 4, 2) := by decide +kernel
theorem dX3_smooth_26 : decode cX3_smooth 26 = .ok (.iload_n 3, 1) := by decide +kernel
theorem dX3_smooth_27 : decode cX3_smooth 27 = .ok (.invokevirtual 41, 3) := by decide +kernel
theorem dX3_smooth_30 : decode cX3_smooth 30 = .ok (.invokevirtual 45, 3) := by decide +kernel
theorem dX3_smooth_33 : decode cX3_smooth 33 = .ok (.ifCond .eq 12, 3) := by decide +kernel
