theorem dX0_init_7 : decode cX0_init 7 = .ok (.newarray .int, 2) := by decide +kernel
theorem dX0_init_9 : decode cX0_init 9 = .ok (.putfield 9, 3) := by decide +kernel
theorem dX0_init_12 : decode cX0_init 12 = .ok (.aload_n 0, 1) := by decide +kernel
theorem dX0_init_13 : decode cX0_init 13 = .ok (.bipush 36, 2) := by decide +kernel
theorem dX0_init_15 : decode cX0_init 15 = .ok (.newarray .int, 2) := by decide +kernel
theorem dX0_init_17 : decode cX0_init 17 = .ok (.putfield 15, 3) := by decide +kernel
theorem dX0_init_20 : decode cX0_init 20 = .ok (.aload_n 0, 1) := by decide +kernel
theorem dX0_init_21 : decode cX0_init 21 = .ok (.bipush 36, 2) := by decide +kernel
theorem dX0_init_23 : decode cX0_init 23 = .ok (.newarray .int, 2) := by decide +kernel
theorem dX0_init_25 : decode cX0_init 25 = .ok (.putfield 18, 3) := by decide +kernel
theorem dX0_init_28 : decode cX0_init 28 = .ok (.aload_n 0, 1) := by decide +kernel
theorem dX0_init_29 : decode cX0_init 29 = .ok (.bipush 36, 2) := by decide +kernel
theorem dX0_init_31 : decode cX0_init 31 = .ok (.bipush 64, 2) := by decide +kernel
theorem dX0_init_33 : decode cX0_init 33 = .ok (.multianewarray 21 2, 4) := by decide +kernel
theorem dX0_init_37 : decode cX0_init 37 = .ok (.putfield 23, 3) := by decide +kernel
theorem dX0_init_40 : decode cX0_init 40 = .ok (.aload_n 0, 1) := by decide +kernel
theorem dX0_init_41 : decode cX0_init 41 = .ok (.bipush 36, 2) := by decide +kernel
theorem dX0_init_43 : decode cX0_init 43 = .ok (.newarray .int, 2) := by decide +kernel
theorem dX0_init_45 : decode cX0_init 45 = .ok (.putfield 26, 3) := by decide +kernel
theorem dX0_init_48 : decode cX0_init 48 = .ok (.aload_n 0, 1) := by decide +kernel
theorem dX0_init_49 : decode cX0_init 49 = .ok (.iconst 5, 1) := by decide +kernel
theorem dX0_init_50 : decode cX0_init 50 = .ok (.newarray .int, 2) := by decide +kernel
theorem dX0_init_52 : decode cX0_init 52 = .ok (.putfield 29, 3) := by decide +kernel
theorem dX0_init_55 : decode cX0_init 55 = .ok (.return_, 1) := by decide +kernel
theorem dX0_has_0 : decode cX0_has 0 = .ok (.iload_n 1, 1) := by decide +kernel
theorem dX0_has_1 : decode cX0_has 1 = .ok (.ifCond .lt 27, 3) := by decide +kernel
theorem dX0_has_4 : decode cX0_has 4 = .ok (.iload_n 1, 1) := by decide +kernel
theorem dX0_has_5 : decode cX0_has 5 = .ok (.aload_n 0, 1) := by decide +kernel
theorem dX0_has_6 : decode cX0_has 6 = .ok (.getfield 32, 3) := by decide +kernel
theorem dX0_has_9 : decode cX0_has 9 = .ok (.if_icmp .ge 19, 3) := by decide +kernel
theorem dX0_has_12 : decode cX0_has 12 = .ok (.iload_n 2, 1) := by decide +kernel
theorem dX0_has_13 : decode cX0_has 13 = .ok (.ifCond .lt 15, 3) := by decide +kernel
theorem dX0_has_16 : decode cX0_has 16 = .ok (.iload_n 2, 1) := by decide +kernel
theorem dX0_has_17 : decode cX0_has 17 = .ok (.aload_n 0, 1) := by decide +kernel
theorem dX0_has_18 : decode cX0_has 18 = .ok (.getfield 36, 3) := by decide +kernel
theorem dX0_has_21 : decode cX0_has 21 = .ok (.if_icmp .ge 7, 3) := by decide +kernel
theorem dX0_has_24 : decode cX0_has 24 = .ok (.iconst 1, 1) := by decide +kernel
theorem dX0_has_25 : decode cX0_has 25 = .ok (.goto 4, 3) := by decide +kernel
theorem dX0_has_28 : decode cX0_has 28 = .ok (.iconst 0, 1) := by decide +kernel
theorem dX0_has_29 : decode cX0_has 29 = .ok (.ireturn, 1) := by decide +kernel
theorem dX0_index_0 : decode cX0_index 0 = .ok (.iload_n 2, 1) := by decide +kernel
theorem dX0_index_1 : decode cX0_index 1 = .ok (.aload_n 0, 1) := by decide +kernel
theorem dX0_index_2 : decode cX0_index 2 = .ok (.getfield 32, 3) := by decide +kernel
theorem dX0_index_5 : decode cX0_index 5 = .ok (.imul, 1) := by decide +kernel
theorem dX0_index_6 : decode cX0_index 6 = .ok (.iload_n 1, 1) := by decide +kernel
theorem dX0_index_7 : decode cX0_index 7 = .ok (.iadd, 1) := by decide +kernel
theorem dX0_index_8 : decode cX0_index 8 = .ok (.ireturn, 1) := by decide +kernel
theorem dX0_isCoded_0 : decode cX0_isCoded 0 = .ok (.aload_n 0, 1) := by decide +kernel
theorem dX0_isCoded_1 : decode cX0_isCoded 1 = .ok (.getfield 9, 3) := by decide +kernel
theorem dX0_isCoded_4 : decode cX0_isCoded 4 = .ok (.iload_n 1, 1) := by decide +kernel
theorem dX0_isCoded_5 : decode cX0_isCoded 5 = .ok (.iaload, 1) := by decide +kernel
theorem dX0_isCoded_6 : decode cX0_isCoded 6 = .ok (.ifCond .eq 7, 3) := by decide +kernel
theorem dX0_isCoded_9 : decode cX0_isCoded 9 = .ok (.iconst 1, 1) := by decide +kernel
theorem dX0_isCoded_10 : decode cX0_isCoded 10 = .ok (.goto 4, 3) := by decide +kernel
theorem dX0_isCoded_13 : decode cX0_isCoded 13 = .ok (.iconst 0, 1) := by decide +kernel
theorem dX0_isCoded_14 : decode cX0_isCoded 14 = .ok (.ireturn, 1) := by decide +kernel
theorem dX0_mode_0 : decode cX0_mode 0 = .ok (.aload_n 0, 1) := by decide +kernel
theorem dX0_mode_1 : decode cX0_mode 1 = .ok (.getfield 9, 3) := by decide +kernel
theorem dX0_mode_4 : decode cX0_mode 4 = .ok (.iload_n 1, 1) := by decide +kernel
theorem dX0_mode_5 : decode cX0_mode 5 = .ok (.iaload, 1) := by decide +kernel
theorem dX0_mode_6 : decode cX0_mode 6 = .ok (.ireturn, 1) := by decide +kernel
theorem dX0_across_0 : decode cX0_across 0 = .ok (.aload_n 0, 1) := by decide +kernel
theorem dX0_across_1 : decode cX0_across 1 = .ok (.getfield 15, 3) := by decide +kernel
theorem dX0_across_4 : decode cX0_across 4 = .ok (.iload_n 1, 1) := by decide +kernel
theorem dX0_across_5 : decode cX0_across 5 = .ok (.iaload, 1) := by decide +kernel
theorem dX0_across_6 : decode cX0_across 6 = .ok (.ireturn, 1) := by decide +kernel
theorem dX0_down_0 : decode cX0_down 0 = .ok (.aload_n 0, 1) := by decide +kernel
theorem dX0_down_1 : decode cX0_down 1 = .ok (.getfield 18, 3) := by decide +kernel
theorem dX0_down_4 : decode cX0_down 4 = .ok (.iload_n 1, 1) := by decide +kernel
theorem dX0_down_5 : decode cX0_down 5 = .ok (.iaload, 1) := by decide +kernel
theorem dX0_down_6 : decode cX0_down 6 = .ok (.ireturn, 1) := by decide +kernel
theorem dX0_number_0 : decode cX0_number 0 = .ok (.aload_n 0, 1) := by decide +kernel
theorem dX0_number_1 : decode cX0_number 1 = .ok (.getfield 23, 3) := by decide +kernel
theorem dX0_number_4 : decode cX0_number 4 = .ok (.iload_n 1, 1) := by decide +kernel
theorem dX0_number_5 : decode cX0_number 5 = .ok (.aaload, 1) := by decide +kernel
theorem dX0_number_6 : decode cX0_number 6 = .ok (.iload_n 2, 1) := by decide +kernel
theorem dX0_number_7 : decode cX0_number 7 = .ok (.iaload, 1) := by decide +kernel
theorem dX0_number_8 : decode cX0_number 8 = .ok (.ireturn, 1) := by decide +kernel
theorem dX0_scale_0 : decode cX0_scale 0 = .ok (.aload_n 0, 1) := by decide +kernel
theorem dX0_scale_1 : decode cX0_scale 1 = .ok (.getfield 39, 3) := by decide +kernel
theorem dX0_scale_4 : decode cX0_scale 4 = .ok (.ireturn, 1) := by decide +kernel
theorem dX0_columns_0 : decode cX0_columns 0 = .ok (.aload_n 0, 1) := by decide +kernel
theorem dX0_columns_1 : decode cX0_columns 1 = .ok (.getfield 32, 3) := by decide +kernel
theorem dX0_columns_4 : decode cX0_columns 4 = .ok (.ireturn, 1) := by decide +kernel
theorem dX0_rows_0 : decode cX0_rows 0 = .ok (.aload_n 0, 1) := by decide +kernel
theorem dX0_rows_1 : decode cX0_rows 1 = .ok (.getfield 36, 3) := by decide +kernel
theorem dX0_rows_4 : decode cX0_rows 4 = .ok (.ireturn, 1) := by decide +kernel
theorem dX0_makesGolden_0 : decode cX0_makesGolden 0 = .ok (.aload_n 0, 1) := by decide +kernel
theorem dX0_makesGolden_1 : decode cX0_makesGolden 1 = .ok (.getfield 42, 3) := by decide +kernel
theorem dX0_makesGolden_4 : decode cX0_makesGolden 4 = .ok (.ifCond .eq 10, 3) := by decide +kernel
theorem dX0_makesGolden_7 : decode cX0_makesGolden 7 = .ok (.aload_n 0, 1) := by decide +kernel
theorem dX0_makesGolden_8 : decode cX0_makesGolden 8 = .ok (.getfield 46, 3) := by decide +kernel
theorem dX0_makesGolden_11 : decode cX0_makesGolden 11 = .ok (.ifCond .eq 7, 3) := by decide +kernel
theorem dX0_makesGolden_14 : decode cX0_makesGolden 14 = .ok (.iconst 1, 1) := by decide +kernel
theorem dX0_makesGolden_15 : decode cX0_makesGolden 15 = .ok (.goto 4, 3) := by decide +kernel
theorem dX0_makesGolden_18 : decode cX0_makesGolden 18 = .ok (.iconst 0, 1) := by decide +kernel
theorem dX0_makesGolden_19 : decode cX0_makesGolden 19 = .ok (.ireturn, 1) := by decide +kernel
set_option maxRecDepth 100000 in
theorem ggX0_read_X1_columns : GoodIn wsX0_read wsX1_columns := goodIn_r _ [10, 11, 147, 148, 149, 150, 151, 152, 153, 154] rfl (by decide +kernel)
set_option maxRecDepth 100000 in
theorem gX0_read_X1_columns : GoodIn wsX0_read (wsV RX0 49 RX1 yX1_columns wsX1_columns) := goodIn_app (goodIn_of _ (by decide +kernel)) ggX0_read_X1_columns
set_option maxRecDepth 100000 in
theorem ggX0_read_X1_rows : GoodIn wsX0_read wsX1_rows := goodIn_r _ [15, 16, 147, 148, 149, 150, 151, 152, 153, 154] rfl (by decide +kernel)
set_option maxRecDepth 100000 in
theorem gX0_read_X1_rows : GoodIn wsX0_read (wsV RX0 54 RX1 yX1_rows wsX1_rows) := goodIn_app (goodIn_of _ (by decide +kernel)) ggX0_read_X1_rows
set_option maxRecDepth 100000 in
theorem ggX0_read_X0_clear : GoodIn wsX0_read wsX0_clear := goodIn_r _ [21, 1, 2, 22, 23, 24, 25, 26, 27, 28, 29, 135, 136, 137, 138, 139, 140, 141, 142, 143, 144, 145, 146] rfl (by decide +kernel)
set_option maxRecDepth 100000 in
theorem gX0_read_X0_clear : GoodIn wsX0_read (wsV RX0 56 RX0 yX0_clear wsX0_clear) := goodIn_app (goodIn_of _ (by decide +kernel)) ggX0_read_X0_clear
set_option maxRecDepth 100000 in
theorem ggX0_read_X4_bit : GoodIn wsX0_read wsX4_bit := goodIn_r _ [34, 35, 36, 37, 38, 39, 40, 41, 33, 42, 155, 156, 157, 158] rfl (by decide +kernel)
set_option maxRecDepth 100000 in
theorem gX0_read_X4_bit : GoodIn wsX0_read (wsV RX0 59 RX4 yX4_bit wsX4_bit) := goodIn_app (goodIn_of _ (by decide +kernel)) ggX0_read_X4_bit
set_option maxRecDepth 100000 in
theorem ggX0_read_X4_fail : GoodIn wsX0_read wsX4_fail := goodIn_r _ [42, 37, 155, 156, 157, 158] rfl (by decide +kernel)
set_option maxRecDepth 100000 in
theorem gX0_read_X4_fail : GoodIn wsX0_read (wsV RX0 64 RX4 yX4_fail wsX4_fail) := goodIn_app (goodIn_of _ (by decide +kernel)) ggX0_read_X4_fail
set_option maxRecDepth 100000 in
theorem ggX0_read_X4_number : GoodIn wsX0_read wsX4_number := goodIn_r _ [47, 48, 31, 32, 33, 34, 35, 36, 37, 38, 39, 40, 41, 42, 155, 156, 157, 158] rfl (by decide +kernel)
set_option maxRecDepth 100000 in
theorem gX0_read_X4_number : GoodIn wsX0_read (wsV RX0 68 RX4 yX4_number wsX4_number) := goodIn_app (goodIn_of _ (by decide +kernel)) ggX0_read_X4_number
set_option maxRecDepth 100000 in
theorem ggX0_read_X0_readFlags : GoodIn wsX0_read wsX0_readFlags := goodIn_r _ [52, 1, 2, 22, 30, 31, 32, 33, 34, 35, 36, 37, 38, 39, 40, 41, 42, 53, 54, 20, 55, 44, 45, 46, 47, 48, 43, 56, 57, 58, 9, 59, 60, 135, 136, 137, 138, 139, 140, 141, 142, 143, 144, 145, 146, 155, 156, 157, 158, 147, 148, 149, 150, 151, 152, 153, 154] rfl (by decide +kernel)
set_option maxRecDepth 100000 in
theorem gX0_read_X0_readFlags : GoodIn wsX0_read (wsV RX0 72 RX0 yX0_readFlags wsX0_readFlags) := goodIn_app (goodIn_of _ (by decide +kernel)) ggX0_read_X0_readFlags
set_option maxRecDepth 100000 in
theorem ggX0_read_X0_readModes : GoodIn wsX0_read wsX0_readModes := goodIn_r _ [64, 1, 2, 22, 56, 57, 58, 9, 59, 60, 65, 66, 67, 20, 68, 30, 31, 32, 33, 34, 35, 36, 37, 38, 39, 40, 41, 42, 69, 70, 71, 44, 45, 46, 47, 48, 72, 73, 74, 75, 23, 24, 135, 136, 137, 138, 139, 140, 141, 142, 143, 144, 145, 146, 147, 148, 149, 150, 151, 152, 153, 154, 155, 156, 157, 158] rfl (by decide +kernel)
set_option maxRecDepth 100000 in
theorem gX0_read_X0_readModes : GoodIn wsX0_read (wsV RX0 76 RX0 yX0_readModes wsX0_readModes) := goodIn_app (goodIn_of _ (by decide +kernel)) ggX0_read_X0_readModes
set_option maxRecDepth 100000 in
theorem ggX0_read_X4_isSound : GoodIn wsX0_read wsX4_isSound := goodIn_r _ [79, 37, 155, 156, 157, 158] rfl (by decide +kernel)
set_option maxRecDepth 100000 in
theorem gX0_read_X4_isSound : GoodIn wsX0_read (wsV RX0 79 RX4 yX4_isSound wsX4_isSound) := goodIn_app (goodIn_of _ (by decide +kernel)) ggX0_read_X4_isSound
set_option maxRecDepth 100000 in
theorem ggX0_read_X0_readTokens : GoodIn wsX0_read wsX0_readTokens := goodIn_r _ [83, 1, 2, 84, 85, 65, 66, 67, 20, 68, 22, 76, 77, 78, 33, 79, 37, 86, 87, 88, 9, 89, 90, 91, 56, 57, 58, 59, 60, 92, 93, 94, 95, 96, 97, 98, 99, 100, 101, 102, 103, 104, 105, 31, 32, 34, 35, 36, 38, 39, 40, 41, 42, 44, 45, 46, 47, 48, 106, 107, 108, 109, 110, 111, 112, 113, 25, 30, 114, 115, 116, 117, 43, 135, 136, 137, 138, 139, 140, 141, 142, 143, 144, 145, 146, 155, 156, 157, 158, 147, 148, 149, 150, 151, 152, 153, 154, 159, 160, 161, 162] rfl (by decide +kernel)
set_option maxRecDepth 100000 in
theorem gX0_read_X0_readTokens : GoodIn wsX0_read (wsV RX0 83 RX0 yX0_readTokens wsX0_readTokens) := goodIn_app (goodIn_of _ (by decide +kernel)) ggX0_read_X0_readTokens
set_option maxRecDepth 100000 in
theorem ggX0_read_X0_addGuesses : GoodIn wsX0_read wsX0_addGuesses := goodIn_r _ [121, 122, 2, 1, 25, 123, 124, 125, 20, 126, 65, 66, 67, 68, 22, 127, 128, 129, 130, 131, 132, 133, 134, 135, 136, 137, 138, 139, 140, 141, 142, 143, 144, 145, 146] rfl (by decide +kernel)
set_option maxRecDepth 100000 in
theorem gX0_read_X0_addGuesses : GoodIn wsX0_read (wsV RX0 86 RX0 yX0_addGuesses wsX0_addGuesses) := goodIn_app (goodIn_of _ (by decide +kernel)) ggX0_read_X0_addGuesses
theorem dX0_read_0 : decode cX0_read 0 = .ok (.aload_n 0, 1) := by decide +kernel
theorem dX0_read_1 : decode cX0_read 1 = .ok (.aload_n 2, 1) := by decide +kernel
theorem dX0_read_2 : decode cX0_read 2 = .ok (.invokevirtual 49, 3) := by decide +kernel
theorem dX0_read_5 : decode cX0_read 5 = .ok (.putfield 32, 3) := by decide +kernel
theorem dX0_read_8 : decode cX0_read 8 = .ok (.aload_n 0, 1) := by decide +kernel
theorem dX0_read_9 : decode cX0_read 9 = .ok (.aload_n 2, 1) := by decide +kernel
theorem dX0_read_10 : decode cX0_read 10 = .ok (.invokevirtual 54, 3) := by decide +kernel
theorem dX0_read_13 : decode cX0_read 13 = .ok (.putfield 36, 3) := by decide +kernel
theorem dX0_read_16 : decode cX0_read 16 = .ok (.aload_n 0, 1) := by decide +kernel
theorem dX0_read_17 : decode cX0_read 17 = .ok (.invokevirtual 56, 3) := by decide +kernel
theorem dX0_read_20 : decode cX0_read 20 = .ok (.aload_n 0, 1) := by decide +kernel
theorem dX0_read_21 : decode cX0_read 21 = .ok (.aload_n 1, 1) := by decide +kernel
theorem dX0_read_22 : decode cX0_read 22 = .ok (.invokevirtual 59, 3) := by decide +kernel
theorem dX0_read_25 : decode cX0_read 25 = .ok (.iconst 1, 1) := by decide +kernel
theorem dX0_read_26 : decode cX0_read 26 = .ok (.if_icmp .ne 7, 3) := by decide +kernel
theorem dX0_read_29 : decode cX0_read 29 = .ok (.iconst 1, 1) := by decide +kernel
theorem dX0_read_30 : decode cX0_read 30 = .ok (.goto 4, 3) := by decide +kernel
theorem dX0_read_33 : decode cX0_read 33 = .ok (.iconst 0, 1) := by decide +kernel
theorem dX0_read_34 : decode cX0_read 34 = .ok (.putfield 42, 3) := by decide +kernel
theorem dX0_read_37 : decode cX0_read 37 = .ok (.aload_n 0, 1) := by decide +kernel
theorem dX0_read_38 : decode cX0_read 38 = .ok (.getfield 42, 3) := by decide +kernel
theorem dX0_read_41 : decode cX0_read 41 = .ok (.ifCond .eq 12, 3) := by decide +kernel
theorem dX0_read_44 : decode cX0_read 44 = .ok (.iload_n 3, 1) := by decide +kernel
theorem dX0_read_45 : decode cX0_read 45 = .ok (.ifCond .ne 8, 3) := by decide +kernel
theorem dX0_read_48 : decode cX0_read 48 = .ok (.aload_n 1, 1) := by decide +kernel
theorem dX0_read_49 : decode cX0_read 49 = .ok (.iconst 4, 1) := by decide +kernel
theorem dX0_read_50 : decode cX0_read 50 = .ok (.invokevirtual 64, 3) := by decide +kernel
theorem dX0_read_53 : decode cX0_read 53 = .ok (.aload_n 0, 1) := by decide +kernel
theorem dX0_read_54 : decode cX0_read 54 = .ok (.aload_n 1, 1) := by decide +kernel
theorem dX0_read_55 : decode cX0_read 55 = .ok (.iconst 3, 1) := by decide +kernel
theorem dX0_read_56 : decode cX0_read 56 = .ok (.invokevirtual 68, 3) := by decide +kernel
theorem dX0_read_59 : decode cX0_read 59 = .ok (.putfield 39, 3) := by decide +kernel
theorem dX0_read_62 : decode cX0_read 62 = .ok (.aload_n 0, 1) := by decide +kernel
theorem dX0_read_63 : decode cX0_read 63 = .ok (.aload_n 1, 1) := by decide +kernel
theorem dX0_read_64 : decode cX0_read 64 = .ok (.invokevirtual 59, 3) := by decide +kernel
theorem dX0_read_67 : decode cX0_read 67 = .ok (.iconst 1, 1) := by decide +kernel
theorem dX0_read_68 : decode cX0_read 68 = .ok (.if_icmp .ne 7, 3) := by decide +kernel
theorem dX0_read_71 : decode cX0_read 71 = .ok (.iconst 1, 1) := by decide +kernel
theorem dX0_read_72 : decode cX0_read 72 = .ok (.goto 4, 3) := by decide +kernel
theorem dX0_read_75 : decode cX0_read 75 = .ok (.iconst 0, 1) := by decide +kernel
theorem dX0_read_76 : decode cX0_read 76 = .ok (.putfield 46, 3) := by decide +kernel
theorem dX0_read_79 : decode cX0_read 79 = .ok (.aload_n 0, 1) := by decide +kernel
theorem dX0_read_80 : decode cX0_read 80 = .ok (.getfield 42, 3) := by decide +kernel
theorem dX0_read_83 : decode cX0_read 83 = .ok (.ifCond .eq 15, 3) := by decide +kernel
theorem dX0_read_86 : decode cX0_read 86 = .ok (.aload_n 0, 1) := by decide +kernel
theorem dX0_read_87 : decode cX0_read 87 = .ok (.aload_n 1, 1) := by decide +kernel
theorem dX0_read_88 : decode cX0_read 88 = .ok (.aload_n 2, 1) := by decide +kernel
theorem dX0_read_89 : decode cX0_read 89 = .ok (.invokevirtual 72, 3) := by decide +kernel
theorem dX0_read_92 : decode cX0_read 92 = .ok (.aload_n 0, 1) := by decide +kernel
theorem dX0_read_93 : decode cX0_read 93 = .ok (.aload_n 1, 1) := by decide +kernel
theorem dX0_read_94 : decode cX0_read 94 = .ok (.aload_n 2, 1) := by decide +kernel
theorem dX0_read_95 : decode cX0_read 95 = .ok (.invokevirtual 76, 3) := by decide +kernel
theorem dX0_read_98 : decode cX0_read 98 = .ok (.aload_n 1, 1) := by decide +kernel
theorem dX0_read_99 : decode cX0_read 99 = .ok (.invokevirtual 79, 3) := by decide +kernel
theorem dX0_read_102 : decode cX0_read 102 = .ok (.ifCond .eq 9, 3) := by decide +kernel
theorem dX0_read_105 : decode cX0_read 105 = .ok (.aload_n 0, 1) := by decide +kernel
theorem dX0_read_106 : decode cX0_read 106 = .ok (.aload_n 1, 1) := by decide +kernel
theorem dX0_read_107 : decode cX0_read 107 = .ok (.aload_n 2, 1) := by decide +kernel
theorem dX0_read_108 : decode cX0_read 108 = .ok (.invokevirtual 83, 3) := by decide +kernel
theorem dX0_read_111 : decode cX0_read 111 = .ok (.aload_n 1, 1) := by decide +kernel
theorem dX0_read_112 : decode cX0_read 112 = .ok (.invokevirtual 79, 3) := by decide +kernel
theorem dX0_read_115 : decode cX0_read 115 = .ok (.ifCond .eq 7, 3) := by decide +kernel
theorem dX0_read_118 : decode cX0_read 118 = .ok (.aload_n 0, 1) := by decide +kernel
theorem dX0_read_119 : decode cX0_read 119 = .ok (.invokevirtual 86, 3) := by decide +kernel
theorem dX0_read_122 : decode cX0_read 122 = .ok (.return_, 1) := by decide +kernel
set_option maxRecDepth 100000 in
theorem ggX0_clear_J7_fill_53178 : GoodIn wsX0_clear wsJ7_fill_53178 := goodIn_r _ [10] rfl (by decide +kernel)
set_option maxRecDepth 100000 in
theorem gX0_clear_J7_fill_53178 : GoodIn wsX0_clear (va_wsS RX0 89 yJ7_fill_53178 wsJ7_fill_53178) := goodIn_app (goodIn_of _ (by decide +kernel)) ggX0_clear_J7_fill_53178
theorem dX0_clear_0 : decode cX0_clear 0 = .ok (.iconst 0, 1) := by decide +kernel
theorem dX0_clear_1 : decode cX0_clear 1 = .ok (.istore_n 1, 1) := by decide +kernel
theorem dX0_clear_2 : decode cX0_clear 2 = .ok (.iload_n 1, 1) := by decide +kernel
theorem dX0_clear_3 : decode cX0_clear 3 = .ok (.aload_n 0, 1) := by decide +kernel
theorem dX0_clear_4 : decode cX0_clear 4 = .ok (.getfield 32, 3) := by decide +kernel
theorem dX0_clear_7 : decode cX0_clear 7 = .ok (.aload_n 0, 1) := by decide +kernel
theorem dX0_clear_8 : decode cX0_clear 8 = .ok (.getfield 36, 3) := by decide +kernel
theorem dX0_clear_11 : decode cX0_clear 11 = .ok (.imul, 1) := by decide +kernel
theorem dX0_clear_12 : decode cX0_clear 12 = .ok (.if_icmp .ge 40, 3) := by decide +kernel
theorem dX0_clear_15 : decode cX0_clear 15 = .ok (.aload_n 0, 1) := by decide +kernel
theorem dX0_clear_16 : decode cX0_clear 16 = .ok (.getfield 9, 3) := by decide +kernel
theorem dX0_clear_19 : decode cX0_clear 19 = .ok (.iload_n 1, 1) := by decide +kernel
theorem dX0_clear_20 : decode cX0_clear 20 = .ok (.iconst 2, 1) := by decide +kernel
theorem dX0_clear_21 : decode cX0_clear 21 = .ok (.iastore, 1) := by decide +kernel
theorem dX0_clear_22 : decode cX0_clear 22 = .ok (.aload_n 0, 1) := by decide +kernel
theorem dX0_clear_23 : decode cX0_clear 23 = .ok (.getfield 15, 3) := by decide +kernel
theorem dX0_clear_26 : decode cX0_clear 26 = .ok (.iload_n 1, 1) := by decide +kernel
theorem dX0_clear_27 : decode cX0_clear 27 = .ok (.iconst 0, 1) := by decide +kernel
theorem dX0_clear_28 : decode cX0_clear 28 = .ok (.iastore, 1) := by decide +kernel
theorem dX0_clear_29 : decode cX0_clear 29 = .ok (.aload_n 0, 1) := by decide +kernel
theorem dX0_clear_30 : decode cX0_clear 30 = .ok (.getfield 18, 3) := by decide +kernel
theorem dX0_clear_33 : decode cX0_clear 33 = .ok (.iload_n 1, 1) := by decide +kernel
theorem dX0_clear_34 : decode cX0_clear 34 = .ok (.iconst 0, 1) := by decide +kernel
theorem dX0_clear_35 : decode cX0_clear 35 = .ok (.iastore, 1) := by decide +kernel
theorem dX0_clear_36 : decode cX0_clear 36 = .ok (.aload_n 0, 1) := by decide +kernel
theorem dX0_clear_37 : decode cX0_clear 37 = .ok (.getfield 23, 3) := by decide +kernel
theorem dX0_clear_40 : decode cX0_clear 40 = .ok (.iload_n 1, 1) := by decide +kernel
theorem dX0_clear_41 : decode cX0_clear 41 = .ok (.aaload, 1) := by decide +kernel
theorem dX0_clear_42 : decode cX0_clear 42 = .ok (.iconst 0, 1) := by decide +kernel
theorem dX0_clear_43 : decode cX0_clear 43 = .ok (.invokestatic 89, 3) := by decide +kernel
theorem dX0_clear_46 : decode cX0_clear 46 = .ok (.iinc 1 1, 3) := by decide +kernel
theorem dX0_clear_49 : decode cX0_clear 49 = .ok (.goto (-47), 3) := by decide +kernel
theorem dX0_clear_52 : decode cX0_clear 52 = .ok (.return_, 1) := by decide +kernel
set_option maxRecDepth 100000 in
theorem ggX0_readFlags_X4_bit : GoodIn wsX0_readFlags wsX4_bit := goodIn_r _ [8, 9, 10, 11, 12, 13, 14, 15, 7, 16, 45, 46, 47, 48] rfl (by decide +kernel)
set_option maxRecDepth 100000 in
theorem gX0_readFlags_X4_bit : GoodIn wsX0_readFlags (wsV RX0 59 RX4 yX4_bit wsX4_bit) := goodIn_app (goodIn_of _ (by decide +kernel)) ggX0_readFlags_X4_bit
set_option maxRecDepth 100000 in
theorem ggX0_readFlags_X0_readRun : GoodIn wsX0_readFlags wsX0_readRun := goodIn_r _ [20, 4, 5, 6, 7, 8, 9, 10, 11, 12, 13, 14, 15, 16, 21, 22, 23, 24, 25, 45, 46, 47, 48] rfl (by decide +kernel)
set_option maxRecDepth 100000 in
theorem gX0_readFlags_X0_readRun : GoodIn wsX0_readFlags (va_wsS RX0 95 yX0_readRun wsX0_readRun) := goodIn_app (goodIn_of _ (by decide +kernel)) ggX0_readFlags_X0_readRun
set_option maxRecDepth 100000 in
theorem ggX0_readFlags_X4_fail : GoodIn wsX0_readFlags wsX4_fail := goodIn_r _ [16, 11, 45, 46, 47, 48] rfl (by decide +kernel)
set_option maxRecDepth 100000 in
theorem gX0_readFlags_X4_fail : GoodIn wsX0_readFlags (wsV RX0 64 RX4 yX4_fail wsX4_fail) := goodIn_app (goodIn_of _ (by decide +kernel)) ggX0_readFlags_X4_fail
set_option maxRecDepth 100000 in
theorem ggX0_readFlags_X1_ordered : GoodIn wsX0_readFlags wsX1_ordered := goodIn_r _ [31, 32, 49, 50, 51, 52, 53, 54, 55, 56] rfl (by decide +kernel)
set_option maxRecDepth 100000 in
theorem gX0_readFlags_X1_ordered : GoodIn wsX0_readFlags (wsV RX0 99 RX1 yX1_ordered wsX1_ordered) := goodIn_app (goodIn_of _ (by decide +kernel)) ggX0_readFlags_X1_ordered
theorem dX0_readFlags_0 : decode cX0_readFlags 0 = .ok (.aload_n 0, 1) := by decide +kernel
theorem dX0_readFlags_1 : decode cX0_readFlags 1 = .ok (.getfield 32, 3) := by decide +kernel
theorem dX0_readFlags_4 : decode cX0_readFlags 4 = .ok (.aload_n 0, 1) := by decide +kernel
theorem dX0_readFlags_5 : decode cX0_readFlags 5 = .ok (.getfield 36, 3) := by decide +kernel
theorem dX0_readFlags_8 : decode cX0_readFlags 8 = .ok (.imul, 1) := by decide +kernel
theorem dX0_readFlags_9 : decode cX0_readFlags 9 = .ok (.istore_n 3, 1) := by decide +kernel
theorem dX0_readFlags_10 : decode cX0_readFlags 10 = .ok (.iconst 1, 1) := by decide +kernel
theorem dX0_readFlags_11 : decode cX0_readFlags 11 = .ok (.aload_n 1, 1) := by decide +kernel
theorem dX0_readFlags_12 : decode cX0_readFlags 12 = .ok (.invokevirtual 59, 3) := by decide +kernel
theorem dX0_readFlags_15 : decode cX0_readFlags 15 = .ok (.isub, 1) := by decide +kernel
theorem dX0_readFlags_16 : decode cX0_readFlags 16 = .ok (.istore 4, 2) := by decide +kernel
theorem dX0_readFlags_18 : decode cX0_readFlags 18 = .ok (.iconst 0, 1) := by decide +kernel
theorem dX0_readFlags_19 : decode cX0_readFlags 19 = .ok (.istore 5, 2) := by decide +kernel
theorem dX0_readFlags_21 : decode cX0_readFlags 21 = .ok (.iconst 0, 1) := by decide +kernel
theorem dX0_readFlags_22 : decode cX0_readFlags 22 = .ok (.istore 6, 2) := by decide +kernel
theorem dX0_readFlags_24 : decode cX0_readFlags 24 = .ok (.iload 6, 2) := by decide +kernel
theorem dX0_readFlags_26 : decode cX0_readFlags 26 = .ok (.iload_n 3, 1) := by decide +kernel
theorem dX0_readFlags_27 : decode cX0_readFlags 27 = .ok (.if_icmp .ge 60, 3) := by decide +kernel
theorem dX0_readFlags_30 : decode cX0_readFlags 30 = .ok (.iload 5, 2) := by decide +kernel
theorem dX0_readFlags_32 : decode cX0_readFlags 32 = .ok (.ifCond .ne 29, 3) := by decide +kernel
theorem dX0_readFlags_35 : decode cX0_readFlags 35 = .ok (.aload_n 1, 1) := by decide +kernel
theorem dX0_readFlags_36 : decode cX0_readFlags 36 = .ok (.invokestatic 95, 3) := by decide +kernel
theorem dX0_readFlags_39 : decode cX0_readFlags 39 = .ok (.istore 5, 2) := by decide +kernel
theorem dX0_readFlags_41 : decode cX0_readFlags 41 = .ok (.iconst 1, 1) := by decide +kernel
theorem dX0_readFlags_42 : decode cX0_readFlags 42 = .ok (.iload 4, 2) := by decide +kernel
theorem dX0_readFlags_44 : decode cX0_readFlags 44 = .ok (.isub, 1) := by decide +kernel
theorem dX0_readFlags_45 : decode cX0_readFlags 45 = .ok (.istore 4, 2) := by decide +kernel
theorem dX0_readFlags_47 : decode cX0_readFlags 47 = .ok (.iload 5, 2) := by decide +kernel
theorem dX0_readFlags_49 : decode cX0_readFlags 49 = .ok (.iload_n 3, 1) := by decide +kernel
theorem dX0_readFlags_50 : decode cX0_readFlags 50 = .ok (.iload 6, 2) := by decide +kernel
theorem dX0_readFlags_52 : decode cX0_readFlags 52 = .ok (.isub, 1) := by decide +kernel
theorem dX0_readFlags_53 : decode cX0_readFlags 53 = .ok (.if_icmp .le 8, 3) := by decide +kernel
theorem dX0_readFlags_56 : decode cX0_readFlags 56 = .ok (.aload_n 1, 1) := by decide +kernel
theorem dX0_readFlags_57 : decode cX0_readFlags 57 = .ok (.iconst 5, 1) := by decide +kernel
theorem dX0_readFlags_58 : decode cX0_readFlags 58 = .ok (.invokevirtual 64, 3) := by decide +kernel
theorem dX0_readFlags_61 : decode cX0_readFlags 61 = .ok (.iinc 5 (-1), 3) := by decide +kernel
theorem dX0_readFlags_64 : decode cX0_readFlags 64 = .ok (.iload 4, 2) := by decide +kernel
theorem dX0_readFlags_66 : decode cX0_readFlags 66 = .ok (.ifCond .ne 15, 3) := by decide +kernel
theorem dX0_readFlags_69 : decode cX0_readFlags 69 = .ok (.aload_n 0, 1) := by decide +kernel
theorem dX0_readFlags_70 : decode cX0_readFlags 70 = .ok (.getfield 9, 3) := by decide +kernel
theorem dX0_readFlags_73 : decode cX0_readFlags 73 = .ok (.aload_n 2, 1) := by decide +kernel
theorem dX0_readFlags_74 : decode cX0_readFlags 74 = .ok (.iload 6, 2) := by decide +kernel
theorem dX0_readFlags_76 : decode cX0_readFlags 76 = .ok (.invokevirtual 99, 3) := by decide +kernel
theorem dX0_readFlags_79 : decode cX0_readFlags 79 = .ok (.iconst 0, 1) := by decide +kernel
theorem dX0_readFlags_80 : decode cX0_readFlags 80 = .ok (.iastore, 1) := by decide +kernel
theorem dX0_readFlags_81 : decode cX0_readFlags 81 = .ok (.iinc 6 1, 3) := by decide +kernel
theorem dX0_readFlags_84 : decode cX0_readFlags 84 = .ok (.goto (-60), 3) := by decide +kernel
theorem dX0_readFlags_87 : decode cX0_readFlags 87 = .ok (.return_, 1) := by decide +kernel
set_option maxRecDepth 100000 in
theorem ggX0_readRun_X4_bit : GoodIn wsX0_readRun wsX4_bit := goodIn_r _ [5, 6, 7, 8, 9, 10, 11, 12, 4, 13, 19, 20, 21, 22] rfl (by decide +kernel)
set_option maxRecDepth 100000 in
theorem gX0_readRun_X4_bit : GoodIn wsX0_readRun (wsV RX0 59 RX4 yX4_bit wsX4_bit) := goodIn_app (goodIn_of _ (by decide +kernel)) ggX0_readRun_X4_bit
set_option maxRecDepth 100000 in
theorem ggX0_readRun_X4_number : GoodIn wsX0_readRun wsX4_number := goodIn_r _ [17, 18, 2, 3, 4, 5, 6, 7, 8, 9, 10, 11, 12, 13, 19, 20, 21, 22] rfl (by decide +kernel)
set_option maxRecDepth 100000 in
theorem gX0_readRun_X4_number : GoodIn wsX0_readRun (wsV RX0 68 RX4 yX4_number wsX4_number) := goodIn_app (goodIn_of _ (by decide +kernel)) ggX0_readRun_X4_number
theorem dX0_readRun_0 : decode cX0_readRun 0 = .ok (.aload_n 0, 1) := by decide +kernel
theorem dX0_readRun_1 : decode cX0_readRun 1 = .ok (.invokevirtual 59, 3) := by decide +kernel
theorem dX0_readRun_4 : decode cX0_readRun 4 = .ok (.ifCond .ne 5, 3) := by decide +kernel
theorem dX0_readRun_7 : decode cX0_readRun 7 = .ok (.iconst 1, 1) := by decide +kernel
theorem dX0_readRun_8 : decode cX0_readRun 8 = .ok (.ireturn, 1) := by decide +kernel
theorem dX0_readRun_9 : decode cX0_readRun 9 = .ok (.aload_n 0, 1) := by decide +kernel
theorem dX0_readRun_10 : decode cX0_readRun 10 = .ok (.invokevirtual 59, 3) := by decide +kernel
theorem dX0_readRun_13 : decode cX0_readRun 13 = .ok (.ifCond .ne 11, 3) := by decide +kernel
theorem dX0_readRun_16 : decode cX0_readRun 16 = .ok (.iconst 2, 1) := by decide +kernel
theorem dX0_readRun_17 : decode cX0_readRun 17 = .ok (.aload_n 0, 1) := by decide +kernel
theorem dX0_readRun_18 : decode cX0_readRun 18 = .ok (.iconst 1, 1) := by decide +kernel
theorem dX0_readRun_19 : decode cX0_readRun 19 = .ok (.invokevirtual 68, 3) := by decide +kernel
theorem dX0_readRun_22 : decode cX0_readRun 22 = .ok (.iadd, 1) := by decide +kernel
theorem dX0_readRun_23 : decode cX0_readRun 23 = .ok (.ireturn, 1) := by decide +kernel
theorem dX0_readRun_24 : decode cX0_readRun 24 = .ok (.aload_n 0, 1) := by decide +kernel
theorem dX0_readRun_25 : decode cX0_readRun 25 = .ok (.invokevirtual 59, 3) := by decide +kernel
theorem dX0_readRun_28 : decode cX0_readRun 28 = .ok (.ifCond .ne 11, 3) := by decide +kernel
theorem dX0_readRun_31 : decode cX0_readRun 31 = .ok (.iconst 4, 1) := by decide +kernel
theorem dX0_readRun_32 : decode cX0_readRun 32 = .ok (.aload_n 0, 1) := by decide +kernel
theorem dX0_readRun_33 : decode cX0_readRun 33 = .ok (.iconst 2, 1) := by decide +kernel
theorem dX0_readRun_34 : decode cX0_readRun 34 = .ok (.invokevirtual 68, 3) := by decide +kernel
theorem dX0_readRun_37 : decode cX0_readRun 37 = .ok (.iadd, 1) := by decide +kernel
theorem dX0_readRun_38 : decode cX0_readRun 38 = .ok (.ireturn, 1) := by decide +kernel
theorem dX0_readRun_39 : decode cX0_readRun 39 = .ok (.bipush 8, 2) := by decide +kernel
theorem dX0_readRun_41 : decode cX0_readRun 41 = .ok (.aload_n 0, 1) := by decide +kernel
theorem dX0_readRun_42 : decode cX0_readRun 42 = .ok (.iconst 5, 1) := by decide +kernel
theorem dX0_readRun_43 : decode cX0_readRun 43 = .ok (.invokevirtual 68, 3) := by decide +kernel
theorem dX0_readRun_46 : decode cX0_readRun 46 = .ok (.iadd, 1) := by decide +kernel
theorem dX0_readRun_47 : decode cX0_readRun 47 = .ok (.ireturn, 1) := by decide +kernel
set_option maxRecDepth 100000 in
theorem ggX0_readModes_X1_ordered : GoodIn wsX0_readModes wsX1_ordered := goodIn_r _ [8, 9, 54, 55, 56, 57, 58, 59, 60, 61] rfl (by decide +kernel)
set_option maxRecDepth 100000 in
theorem gX0_readModes_X1_ordered : GoodIn wsX0_readModes (wsV RX0 99 RX1 yX1_ordered wsX1_ordered) := goodIn_app (goodIn_of _ (by decide +kernel)) ggX0_readModes_X1_ordered
set_option maxRecDepth 100000 in
theorem ggX0_readModes_X0_isCoded : GoodIn wsX0_readModes wsX0_isCoded := goodIn_r _ [14, 3, 42, 43, 44, 45, 46, 47, 48, 49, 50, 51, 52, 53] rfl (by decide +kernel)
set_option maxRecDepth 100000 in
theorem gX0_readModes_X0_isCoded : GoodIn wsX0_readModes (wsV RX0 102 RX0 yX0_isCoded wsX0_isCoded) := goodIn_app (goodIn_of _ (by decide +kernel)) ggX0_readModes_X0_isCoded
set_option maxRecDepth 100000 in
theorem ggX0_readModes_X4_bit : GoodIn wsX0_readModes wsX4_bit := goodIn_r _ [19, 20, 21, 22, 23, 24, 25, 26, 18, 27, 62, 63, 64, 65] rfl (by decide +kernel)
set_option maxRecDepth 100000 in
theorem gX0_readModes_X4_bit : GoodIn wsX0_readModes (wsV RX0 59 RX4 yX4_bit wsX4_bit) := goodIn_app (goodIn_of _ (by decide +kernel)) ggX0_readModes_X4_bit
set_option maxRecDepth 100000 in
theorem ggX0_readModes_X0_readMove : GoodIn wsX0_readModes wsX0_readMove := goodIn_r _ [30, 31, 32, 33, 18, 34, 35, 16, 17, 19, 20, 21, 22, 23, 24, 25, 26, 27, 15, 62, 63, 64, 65] rfl (by decide +kernel)
set_option maxRecDepth 100000 in
theorem gX0_readModes_X0_readMove : GoodIn wsX0_readModes (va_wsS RX0 106 yX0_readMove wsX0_readMove) := goodIn_app (goodIn_of _ (by decide +kernel)) ggX0_readModes_X0_readMove
set_option maxRecDepth 100000 in
theorem ggX0_readModes_X0_setMoved : GoodIn wsX0_readModes wsX0_setMoved := goodIn_r _ [39, 3, 40, 41, 42, 43, 44, 45, 46, 47, 48, 49, 50, 51, 52, 53] rfl (by decide +kernel)
set_option maxRecDepth 100000 in
theorem gX0_readModes_X0_setMoved : GoodIn wsX0_readModes (wsV RX0 109 RX0 yX0_setMoved wsX0_setMoved) := goodIn_app (goodIn_of _ (by decide +kernel)) ggX0_readModes_X0_setMoved
theorem dX0_readModes_0 : decode cX0_readModes 0 = .ok (.iconst 0, 1) := by decide +kernel
theorem dX0_readModes_1 : decode cX0_readModes 1 = .ok (.istore_n 3, 1) := by decide +kernel
theorem dX0_readModes_2 : decode cX0_readModes 2 = .ok (.iconst 0, 1) := by decide +kernel
theorem dX0_readModes_3 : decode cX0_readModes 3 = .ok (.istore 4, 2) := by decide +kernel
theorem dX0_readModes_5 : decode cX0_readModes 5 = .ok (.iconst 0, 1) := by decide +kernel
theorem dX0_readModes_6 : decode cX0_readModes 6 = .ok (.istore 5, 2) := by decide +kernel
theorem dX0_readModes_8 : decode cX0_readModes 8 = .ok (.iload 5, 2) := by decide +kernel
theorem dX0_readModes_10 : decode cX0_readModes 10 = .ok (.aload_n 0, 1) := by decide +kernel
theorem dX0_readModes_11 : decode cX0_readModes 11 = .ok (.getfield 32, 3) := by decide +kernel
theorem dX0_readModes_14 : decode cX0_readModes 14 = .ok (.aload_n 0, 1) := by decide +kernel
theorem dX0_readModes_15 : decode cX0_readModes 15 = .ok (.getfield 36, 3) := by decide +kernel
theorem dX0_readModes_18 : decode cX0_readModes 18 = .ok (.imul, 1) := by decide +kernel
theorem dX0_readModes_19 : decode cX0_readModes 19 = .ok (.if_icmp .ge 122, 3) := by decide +kernel
theorem dX0_readModes_22 : decode cX0_readModes 22 = .ok (.aload_n 2, 1) := by decide +kernel
theorem dX0_readModes_23 : decode cX0_readModes 23 = .ok (.iload 5, 2) := by decide +kernel
theorem dX0_readModes_25 : decode cX0_readModes 25 = .ok (.invokevirtual 99, 3) := by decide +kernel
theorem dX0_readModes_28 : decode cX0_readModes 28 = .ok (.istore 6, 2) := by decide +kernel
theorem dX0_readModes_30 : decode cX0_readModes 30 = .ok (.aload_n 0, 1) := by decide +kernel
theorem dX0_readModes_31 : decode cX0_readModes 31 = .ok (.iload 6, 2) := by decide +kernel
theorem dX0_readModes_33 : decode cX0_readModes 33 = .ok (.invokevirtual 102, 3) := by decide +kernel
theorem dX0_readModes_36 : decode cX0_readModes 36 = .ok (.ifCond .ne 6, 3) := by decide +kernel
theorem dX0_readModes_39 : decode cX0_readModes 39 = .ok (.goto 96, 3) := by decide +kernel
theorem dX0_readModes_42 : decode cX0_readModes 42 = .ok (.aload_n 1, 1) := by decide +kernel
theorem dX0_readModes_43 : decode cX0_readModes 43 = .ok (.invokevirtual 59, 3) := by decide +kernel
theorem dX0_readModes_46 : decode cX0_readModes 46 = .ok (.ifCond .ne 14, 3) := by decide +kernel
theorem dX0_readModes_49 : decode cX0_readModes 49 = .ok (.aload_n 0, 1) := by decide +kernel
theorem dX0_readModes_50 : decode cX0_readModes 50 = .ok (.getfield 9, 3) := by decide +kernel
theorem dX0_readModes_53 : decode cX0_readModes 53 = .ok (.iload 6, 2) := by decide +kernel
theorem dX0_readModes_55 : decode cX0_readModes 55 = .ok (.iconst 1, 1) := by decide +kernel
theorem dX0_readModes_56 : decode cX0_readModes 56 = .ok (.iastore, 1) := by decide +kernel
theorem dX0_readModes_57 : decode cX0_readModes 57 = .ok (.goto 78, 3) := by decide +kernel
theorem dX0_readModes_60 : decode cX0_readModes 60 = .ok (.aload_n 1, 1) := by decide +kernel
theorem dX0_readModes_61 : decode cX0_readModes 61 = .ok (.invokevirtual 59, 3) := by decide +kernel
theorem dX0_readModes_64 : decode cX0_readModes 64 = .ok (.ifCond .ne 14, 3) := by decide +kernel
theorem dX0_readModes_67 : decode cX0_readModes 67 = .ok (.aload_n 0, 1) := by decide +kernel
theorem dX0_readModes_68 : decode cX0_readModes 68 = .ok (.getfield 9, 3) := by decide +kernel
theorem dX0_readModes_71 : decode cX0_readModes 71 = .ok (.iload 6, 2) := by decide +kernel
theorem dX0_readModes_73 : decode cX0_readModes 73 = .ok (.iconst 2, 1) := by decide +kernel
theorem dX0_readModes_74 : decode cX0_readModes 74 = .ok (.iastore, 1) := by decide +kernel
theorem dX0_readModes_75 : decode cX0_readModes 75 = .ok (.goto 60, 3) := by decide +kernel
theorem dX0_readModes_78 : decode cX0_readModes 78 = .ok (.aload_n 1, 1) := by decide +kernel
theorem dX0_readModes_79 : decode cX0_readModes 79 = .ok (.invokevirtual 59, 3) := by decide +kernel
theorem dX0_readModes_82 : decode cX0_readModes 82 = .ok (.ifCond .ne 26, 3) := by decide +kernel
theorem dX0_readModes_85 : decode cX0_readModes 85 = .ok (.aload_n 1, 1) := by decide +kernel
theorem dX0_readModes_86 : decode cX0_readModes 86 = .ok (.invokestatic 106, 3) := by decide +kernel
theorem dX0_readModes_89 : decode cX0_readModes 89 = .ok (.istore_n 3, 1) := by decide +kernel
theorem dX0_readModes_90 : decode cX0_readModes 90 = .ok (.aload_n 1, 1) := by decide +kernel
theorem dX0_readModes_91 : decode cX0_readModes 91 = .ok (.invokestatic 106, 3) := by decide +kernel
theorem dX0_readModes_94 : decode cX0_readModes 94 = .ok (.istore 4, 2) := by decide +kernel
theorem dX0_readModes_96 : decode cX0_readModes 96 = .ok (.aload_n 0, 1) := by decide +kernel
theorem dX0_readModes_97 : decode cX0_readModes 97 = .ok (.iload 6, 2) := by decide +kernel
theorem dX0_readModes_99 : decode cX0_readModes 99 = .ok (.iload_n 3, 1) := by decide +kernel
theorem dX0_readModes_100 : decode cX0_readModes 100 = .ok (.iload 4, 2) := by decide +kernel
theorem dX0_readModes_102 : decode cX0_readModes 102 = .ok (.invokevirtual 109, 3) := by decide +kernel
theorem dX0_readModes_105 : decode cX0_readModes 105 = .ok (.goto 30, 3) := by decide +kernel
theorem dX0_readModes_108 : decode cX0_readModes 108 = .ok (.aload_n 1, 1) := by decide +kernel
theorem dX0_readModes_109 : decode cX0_readModes 109 = .ok (.invokevirtual 59, 3) := by decide +kernel
theorem dX0_readModes_112 : decode cX0_readModes 112 = .ok (.ifCond .ne 15, 3) := by decide +kernel
theorem dX0_readModes_115 : decode cX0_readModes 115 = .ok (.aload_n 0, 1) := by decide +kernel
theorem dX0_readModes_116 : decode cX0_readModes 116 = .ok (.iload 6, 2) := by decide +kernel
theorem dX0_readModes_118 : decode cX0_readModes 118 = .ok (.iload_n 3, 1) := by decide +kernel
theorem dX0_readModes_119 : decode cX0_readModes 119 = .ok (.iload 4, 2) := by decide +kernel
theorem dX0_readModes_121 : decode cX0_readModes 121 = .ok (.invokevirtual 109, 3) := by decide +kernel
theorem dX0_readModes_124 : decode cX0_readModes 124 = .ok (.goto 11, 3) := by decide +kernel
theorem dX0_readModes_127 : decode cX0_readModes 127 = .ok (.aload_n 0, 1) := by decide +kernel
theorem dX0_readModes_128 : decode cX0_readModes 128 = .ok (.getfield 9, 3) := by decide +kernel
theorem dX0_readModes_131 : decode cX0_readModes 131 = .ok (.iload 6, 2) := by decide +kernel
theorem dX0_readModes_133 : decode cX0_readModes 133 = .ok (.iconst 4, 1) := by decide +kernel
theorem dX0_readModes_134 : decode cX0_readModes 134 = .ok (.iastore, 1) := by decide +kernel
theorem dX0_readModes_135 : decode cX0_readModes 135 = .ok (.iinc 5 1, 3) := by decide +kernel
theorem dX0_readModes_138 : decode cX0_readModes 138 = .ok (.goto (-130), 3) := by decide +kernel
theorem dX0_readModes_141 : decode cX0_readModes 141 = .ok (.return_, 1) := by decide +kernel
set_option maxRecDepth 100000 in
theorem ggX0_readMove_X4_number : GoodIn wsX0_readMove wsX4_number := goodIn_r _ [5, 6, 7, 8, 4, 9, 10, 11, 12, 13, 14, 15, 16, 17, 19, 20, 21, 22] rfl (by decide +kernel)
set_option maxRecDepth 100000 in
theorem gX0_readMove_X4_number : GoodIn wsX0_readMove (wsV RX0 68 RX4 yX4_number wsX4_number) := goodIn_app (goodIn_of _ (by decide +kernel)) ggX0_readMove_X4_number
set_option maxRecDepth 100000 in
theorem ggX0_readMove_X4_bit : GoodIn wsX0_readMove wsX4_bit := goodIn_r _ [9, 10, 11, 12, 13, 14, 15, 16, 4, 17, 19, 20, 21, 22] rfl (by decide +kernel)
set_option maxRecDepth 100000 in
theorem gX0_readMove_X4_bit : GoodIn wsX0_readMove (wsV RX0 59 RX4 yX4_bit wsX4_bit) := goodIn_app (goodIn_of _ (by decide +kernel)) ggX0_readMove_X4_bit
theorem dX0_readMove_0 : decode cX0_readMove 0 = .ok (.aload_n 0, 1) := by decide +kernel
theorem dX0_readMove_1 : decode cX0_readMove 1 = .ok (.iconst 5, 1) := by decide +kernel
theorem dX0_readMove_2 : decode cX0_readMove 2 = .ok (.invokevirtual 68, 3) := by decide +kernel
theorem dX0_readMove_5 : decode cX0_readMove 5 = .ok (.istore_n 1, 1) := by decide +kernel
theorem dX0_readMove_6 : decode cX0_readMove 6 = .ok (.aload_n 0, 1) := by decide +kernel
theorem dX0_readMove_7 : decode cX0_readMove 7 = .ok (.invokevirtual 59, 3) := by decide +kernel
theorem dX0_readMove_10 : decode cX0_readMove 10 = .ok (.iconst 1, 1) := by decide +kernel
theorem dX0_readMove_11 : decode cX0_readMove 11 = .ok (.if_icmp .ne 8, 3) := by decide +kernel
theorem dX0_readMove_14 : decode cX0_readMove 14 = .ok (.iload_n 1, 1) := by decide +kernel
theorem dX0_readMove_15 : decode cX0_readMove 15 = .ok (.ineg, 1) := by decide +kernel
theorem dX0_readMove_16 : decode cX0_readMove 16 = .ok (.goto 4, 3) := by decide +kernel
theorem dX0_readMove_19 : decode cX0_readMove 19 = .ok (.iload_n 1, 1) := by decide +kernel
theorem dX0_readMove_20 : decode cX0_readMove 20 = .ok (.ireturn, 1) := by decide +kernel
theorem dX0_setMoved_0 : decode cX0_setMoved 0 = .ok (.aload_n 0, 1) := by decide +kernel
theorem dX0_setMoved_1 : decode cX0_setMoved 1 = .ok (.getfield 9, 3) := by decide +kernel
theorem dX0_setMoved_4 : decode cX0_setMoved 4 = .ok (.iload_n 1, 1) := by decide +kernel
theorem dX0_setMoved_5 : decode cX0_setMoved 5 = .ok (.iconst 3, 1) := by decide +kernel
theorem dX0_setMoved_6 : decode cX0_setMoved 6 = .ok (.iastore, 1) := by decide +kernel
theorem dX0_setMoved_7 : decode cX0_setMoved 7 = .ok (.aload_n 0, 1) := by decide +kernel
theorem dX0_setMoved_8 : decode cX0_setMoved 8 = .ok (.getfield 15, 3) := by decide +kernel
theorem dX0_setMoved_11 : decode cX0_setMoved 11 = .ok (.iload_n 1, 1) := by decide +kernel
theorem dX0_setMoved_12 : decode cX0_setMoved 12 = .ok (.iload_n 2, 1) := by decide +kernel
theorem dX0_setMoved_13 : decode cX0_setMoved 13 = .ok (.iastore, 1) := by decide +kernel
theorem dX0_setMoved_14 : decode cX0_setMoved 14 = .ok (.aload_n 0, 1) := by decide +kernel
theorem dX0_setMoved_15 : decode cX0_setMoved 15 = .ok (.getfield 18, 3) := by decide +kernel
theorem dX0_setMoved_18 : decode cX0_setMoved 18 = .ok (.iload_n 1, 1) := by decide +kernel
theorem dX0_setMoved_19 : decode cX0_setMoved 19 = .ok (.iload_n 3, 1) := by decide +kernel
theorem dX0_setMoved_20 : decode cX0_setMoved 20 = .ok (.iastore, 1) := by decide +kernel
theorem dX0_setMoved_21 : decode cX0_setMoved 21 = .ok (.return_, 1) := by decide +kernel
set_option maxRecDepth 100000 in
theorem ggX0_readTokens_X0_isCoded : GoodIn wsX0_readTokens wsX0_isCoded := goodIn_r _ [9, 10, 73, 74, 75, 76, 77, 78, 79, 80, 81, 82, 83, 84] rfl (by decide +kernel)
set_option maxRecDepth 100000 in
theorem gX0_readTokens_X0_isCoded : GoodIn wsX0_readTokens (wsV RX0 102 RX0 yX0_isCoded wsX0_isCoded) := goodIn_app (goodIn_of _ (by decide +kernel)) ggX0_readTokens_X0_isCoded
set_option maxRecDepth 100000 in
theorem ggX0_readTokens_X4_isSound : GoodIn wsX0_readTokens wsX4_isSound := goodIn_r _ [15, 16, 85, 86, 87, 88] rfl (by decide +kernel)
set_option maxRecDepth 100000 in
theorem gX0_readTokens_X4_isSound : GoodIn wsX0_readTokens (wsV RX0 79 RX4 yX4_isSound wsX4_isSound) := goodIn_app (goodIn_of _ (by decide +kernel)) ggX0_readTokens_X4_isSound
set_option maxRecDepth 100000 in
theorem ggX0_readTokens_X1_treeFor : GoodIn wsX0_readTokens wsX1_treeFor := goodIn_r _ [21, 22, 23, 89, 90, 91, 92, 93, 94, 95, 96] rfl (by decide +kernel)
set_option maxRecDepth 100000 in
theorem gX0_readTokens_X1_treeFor : GoodIn wsX0_readTokens (wsV RX0 116 RX1 yX1_treeFor wsX1_treeFor) := goodIn_app (goodIn_of _ (by decide +kernel)) ggX0_readTokens_X1_treeFor
set_option maxRecDepth 100000 in
theorem ggX0_readTokens_X1_ordered : GoodIn wsX0_readTokens wsX1_ordered := goodIn_r _ [27, 28, 89, 90, 91, 92, 93, 94, 95, 96] rfl (by decide +kernel)
set_option maxRecDepth 100000 in
theorem gX0_readTokens_X1_ordered : GoodIn wsX0_readTokens (wsV RX0 99 RX1 yX1_ordered wsX1_ordered) := goodIn_app (goodIn_of _ (by decide +kernel)) ggX0_readTokens_X1_ordered
set_option maxRecDepth 100000 in
theorem ggX0_readTokens_X0_goOn : GoodIn wsX0_readTokens wsX0_goOn := goodIn_r _ [32, 4, 3, 33, 34, 35, 36, 37, 38, 39, 40, 41, 42, 43, 44, 14, 45, 46, 47, 16, 48, 49, 50, 51, 52, 53, 54, 55, 56, 57, 58, 59, 60, 8, 61, 62, 63, 64, 65, 66, 67, 68, 69, 70, 71, 72, 73, 74, 75, 76, 77, 78, 79, 80, 81, 82, 83, 84, 97, 98, 99, 100, 85, 86, 87, 88] rfl (by decide +kernel)
set_option maxRecDepth 100000 in
theorem gX0_readTokens_X0_goOn : GoodIn wsX0_readTokens (wsV RX0 120 RX0 yX0_goOn wsX0_goOn) := goodIn_app (goodIn_of _ (by decide +kernel)) ggX0_readTokens_X0_goOn
theorem dX0_readTokens_0 : decode cX0_readTokens 0 = .ok (.aload_n 0, 1) := by decide +kernel
theorem dX0_readTokens_1 : decode cX0_readTokens 1 = .ok (.getfield 32, 3) := by decide +kernel
theorem dX0_readTokens_4 : decode cX0_readTokens 4 = .ok (.aload_n 0, 1) := by decide +kernel
theorem dX0_readTokens_5 : decode cX0_readTokens 5 = .ok (.getfield 36, 3) := by decide +kernel
theorem dX0_readTokens_8 : decode cX0_readTokens 8 = .ok (.imul, 1) := by decide +kernel
theorem dX0_readTokens_9 : decode cX0_readTokens 9 = .ok (.istore_n 3, 1) := by decide +kernel
theorem dX0_readTokens_10 : decode cX0_readTokens 10 = .ok (.iconst 0, 1) := by decide +kernel
theorem dX0_readTokens_11 : decode cX0_readTokens 11 = .ok (.istore 4, 2) := by decide +kernel
theorem dX0_readTokens_13 : decode cX0_readTokens 13 = .ok (.iload 4, 2) := by decide +kernel
theorem dX0_readTokens_15 : decode cX0_readTokens 15 = .ok (.iload_n 3, 1) := by decide +kernel
theorem dX0_readTokens_16 : decode cX0_readTokens 16 = .ok (.if_icmp .ge 31, 3) := by decide +kernel
theorem dX0_readTokens_19 : decode cX0_readTokens 19 = .ok (.aload_n 0, 1) := by decide +kernel
theorem dX0_readTokens_20 : decode cX0_readTokens 20 = .ok (.getfield 26, 3) := by decide +kernel
theorem dX0_readTokens_23 : decode cX0_readTokens 23 = .ok (.iload 4, 2) := by decide +kernel
theorem dX0_readTokens_25 : decode cX0_readTokens 25 = .ok (.aload_n 0, 1) := by decide +kernel
theorem dX0_readTokens_26 : decode cX0_readTokens 26 = .ok (.iload 4, 2) := by decide +kernel
theorem dX0_readTokens_28 : decode cX0_readTokens 28 = .ok (.invokevirtual 102, 3) := by decide +kernel
theorem dX0_readTokens_31 : decode cX0_readTokens 31 = .ok (.ifCond .eq 7, 3) := by decide +kernel
theorem dX0_readTokens_34 : decode cX0_readTokens 34 = .ok (.iconst 0, 1) := by decide +kernel
theorem dX0_readTokens_35 : decode cX0_readTokens 35 = .ok (.goto 5, 3) := by decide +kernel
theorem dX0_readTokens_38 : decode cX0_readTokens 38 = .ok (.bipush 64, 2) := by decide +kernel
theorem dX0_readTokens_40 : decode cX0_readTokens 40 = .ok (.iastore, 1) := by decide +kernel
theorem dX0_readTokens_41 : decode cX0_readTokens 41 = .ok (.iinc 4 1, 3) := by decide +kernel
theorem dX0_readTokens_44 : decode cX0_readTokens 44 = .ok (.goto (-31), 3) := by decide +kernel
theorem dX0_readTokens_47 : decode cX0_readTokens 47 = .ok (.aload_n 0, 1) := by decide +kernel
theorem dX0_readTokens_48 : decode cX0_readTokens 48 = .ok (.iconst 0, 1) := by decide +kernel
theorem dX0_readTokens_49 : decode cX0_readTokens 49 = .ok (.putfield 113, 3) := by decide +kernel
theorem dX0_readTokens_52 : decode cX0_readTokens 52 = .ok (.iconst 0, 1) := by decide +kernel
theorem dX0_readTokens_53 : decode cX0_readTokens 53 = .ok (.istore 4, 2) := by decide +kernel
theorem dX0_readTokens_55 : decode cX0_readTokens 55 = .ok (.iload 4, 2) := by decide +kernel
theorem dX0_readTokens_57 : decode cX0_readTokens 57 = .ok (.bipush 64, 2) := by decide +kernel
theorem dX0_readTokens_59 : decode cX0_readTokens 59 = .ok (.if_icmp .ge 68, 3) := by decide +kernel
theorem dX0_readTokens_62 : decode cX0_readTokens 62 = .ok (.aload_n 1, 1) := by decide +kernel
theorem dX0_readTokens_63 : decode cX0_readTokens 63 = .ok (.invokevirtual 79, 3) := by decide +kernel
theorem dX0_readTokens_66 : decode cX0_readTokens 66 = .ok (.ifCond .eq 61, 3) := by decide +kernel
theorem dX0_readTokens_69 : decode cX0_readTokens 69 = .ok (.aload_n 2, 1) := by decide +kernel
theorem dX0_readTokens_70 : decode cX0_readTokens 70 = .ok (.iload 4, 2) := by decide +kernel
theorem dX0_readTokens_72 : decode cX0_readTokens 72 = .ok (.invokevirtual 116, 3) := by decide +kernel
theorem dX0_readTokens_75 : decode cX0_readTokens 75 = .ok (.astore 5, 2) := by decide +kernel
theorem dX0_readTokens_77 : decode cX0_readTokens 77 = .ok (.iconst 0, 1) := by decide +kernel
theorem dX0_readTokens_78 : decode cX0_readTokens 78 = .ok (.istore 6, 2) := by decide +kernel
theorem dX0_readTokens_80 : decode cX0_readTokens 80 = .ok (.iload 6, 2) := by decide +kernel
theorem dX0_readTokens_82 : decode cX0_readTokens 82 = .ok (.iload_n 3, 1) := by decide +kernel
theorem dX0_readTokens_83 : decode cX0_readTokens 83 = .ok (.if_icmp .ge 38, 3) := by decide +kernel
theorem dX0_readTokens_86 : decode cX0_readTokens 86 = .ok (.aload_n 2, 1) := by decide +kernel
theorem dX0_readTokens_87 : decode cX0_readTokens 87 = .ok (.iload 6, 2) := by decide +kernel
theorem dX0_readTokens_89 : decode cX0_readTokens 89 = .ok (.invokevirtual 99, 3) := by decide +kernel
theorem dX0_readTokens_92 : decode cX0_readTokens 92 = .ok (.istore 7, 2) := by decide +kernel
theorem dX0_readTokens_94 : decode cX0_readTokens 94 = .ok (.aload_n 0, 1) := by decide +kernel
theorem dX0_readTokens_95 : decode cX0_readTokens 95 = .ok (.getfield 26, 3) := by decide +kernel
theorem dX0_readTokens_98 : decode cX0_readTokens 98 = .ok (.iload 7, 2) := by decide +kernel
theorem dX0_readTokens_100 : decode cX0_readTokens 100 = .ok (.iaload, 1) := by decide +kernel
theorem dX0_readTokens_101 : decode cX0_readTokens 101 = .ok (.iload 4, 2) := by decide +kernel
theorem dX0_readTokens_103 : decode cX0_readTokens 103 = .ok (.if_icmp .ne 12, 3) := by decide +kernel
theorem dX0_readTokens_106 : decode cX0_readTokens 106 = .ok (.aload_n 0, 1) := by decide +kernel
theorem dX0_readTokens_107 : decode cX0_readTokens 107 = .ok (.aload_n 1, 1) := by decide +kernel
theorem dX0_readTokens_108 : decode cX0_readTokens 108 = .ok (.aload 5, 2) := by decide +kernel
theorem dX0_readTokens_110 : decode cX0_readTokens 110 = .ok (.iload 7, 2) := by decide +kernel
theorem dX0_readTokens_112 : decode cX0_readTokens 112 = .ok (.invokevirtual 120, 3) := by decide +kernel
theorem dX0_readTokens_115 : decode cX0_readTokens 115 = .ok (.iinc 6 1, 3) := by decide +kernel
theorem dX0_readTokens_118 : decode cX0_readTokens 118 = .ok (.goto (-38), 3) := by decide +kernel
theorem dX0_readTokens_121 : decode cX0_readTokens 121 = .ok (.iinc 4 1, 3) := by decide +kernel
theorem dX0_readTokens_124 : decode cX0_readTokens 124 = .ok (.goto (-69), 3) := by decide +kernel
theorem dX0_readTokens_127 : decode cX0_readTokens 127 = .ok (.return_, 1) := by decide +kernel
set_option maxRecDepth 100000 in
theorem ggX0_goOn_X5_readToken : GoodIn wsX0_goOn wsX5_readToken := goodIn_r _ [9, 10, 11, 12, 13, 14, 15, 16, 17, 18, 19, 20, 21, 22, 23, 24, 58, 59, 60, 61, 62, 63, 64, 65] rfl (by decide +kernel)
set_option maxRecDepth 100000 in
theorem gX0_goOn_X5_readToken : GoodIn wsX0_goOn (wsV RX0 124 RX5 yX5_readToken wsX5_readToken) := goodIn_app (goodIn_of _ (by decide +kernel)) ggX0_goOn_X5_readToken
set_option maxRecDepth 100000 in
theorem ggX0_goOn_X4_number : GoodIn wsX0_goOn wsX4_number := goodIn_r _ [28, 29, 13, 14, 15, 16, 17, 18, 19, 20, 21, 22, 23, 24, 62, 63, 64, 65] rfl (by decide +kernel)
set_option maxRecDepth 100000 in
theorem gX0_goOn_X4_number : GoodIn wsX0_goOn (wsV RX0 68 RX4 yX4_number wsX4_number) := goodIn_app (goodIn_of _ (by decide +kernel)) ggX0_goOn_X4_number
set_option maxRecDepth 100000 in
theorem ggX0_goOn_X0_readNumber : GoodIn wsX0_goOn wsX0_readNumber := goodIn_r _ [34, 35, 36, 2, 37, 38, 39, 40, 13, 14, 15, 16, 17, 18, 19, 20, 21, 22, 23, 24, 25, 26, 27, 28, 29, 41, 42, 43, 33, 44, 45, 46, 47, 48, 49, 50, 51, 52, 53, 54, 55, 56, 57, 62, 63, 64, 65] rfl (by decide +kernel)
set_option maxRecDepth 100000 in
theorem gX0_goOn_X0_readNumber : GoodIn wsX0_goOn (wsV RX0 135 RX0 yX0_readNumber wsX0_readNumber) := goodIn_app (goodIn_of _ (by decide +kernel)) ggX0_goOn_X0_readNumber
theorem dX0_goOn_0 : decode cX0_goOn 0 = .ok (.aload_n 0, 1) := by decide +kernel
theorem dX0_goOn_1 : decode cX0_goOn 1 = .ok (.getfield 113, 3) := by decide +kernel
theorem dX0_goOn_4 : decode cX0_goOn 4 = .ok (.ifCond .le 22, 3) := by decide +kernel
theorem dX0_goOn_7 : decode cX0_goOn 7 = .ok (.aload_n 0, 1) := by decide +kernel
theorem dX0_goOn_8 : decode cX0_goOn 8 = .ok (.dup, 1) := by decide +kernel
theorem dX0_goOn_9 : decode cX0_goOn 9 = .ok (.getfield 113, 3) := by decide +kernel
theorem dX0_goOn_12 : decode cX0_goOn 12 = .ok (.iconst 1, 1) := by decide +kernel
theorem dX0_goOn_13 : decode cX0_goOn 13 = .ok (.isub, 1) := by decide +kernel
theorem dX0_goOn_14 : decode cX0_goOn 14 = .ok (.putfield 113, 3) := by decide +kernel
theorem dX0_goOn_17 : decode cX0_goOn 17 = .ok (.aload_n 0, 1) := by decide +kernel
theorem dX0_goOn_18 : decode cX0_goOn 18 = .ok (.getfield 26, 3) := by decide +kernel
theorem dX0_goOn_21 : decode cX0_goOn 21 = .ok (.iload_n 3, 1) := by decide +kernel
theorem dX0_goOn_22 : decode cX0_goOn 22 = .ok (.bipush 64, 2) := by decide +kernel
theorem dX0_goOn_24 : decode cX0_goOn 24 = .ok (.iastore, 1) := by decide +kernel
theorem dX0_goOn_25 : decode cX0_goOn 25 = .ok (.return_, 1) := by decide +kernel
theorem dX0_goOn_26 : decode cX0_goOn 26 = .ok (.aload_n 2, 1) := by decide +kernel
theorem dX0_goOn_27 : decode cX0_goOn 27 = .ok (.aload_n 1, 1) := by decide +kernel
theorem dX0_goOn_28 : decode cX0_goOn 28 = .ok (.invokevirtual 124, 3) := by decide +kernel
theorem dX0_goOn_31 : decode cX0_goOn 31 = .ok (.istore 4, 2) := by decide +kernel
theorem dX0_goOn_33 : decode cX0_goOn 33 = .ok (.iload 4, 2) := by decide +kernel
theorem dX0_goOn_35 : decode cX0_goOn 35 = .ok (.iconst 4, 1) := by decide +kernel
theorem dX0_goOn_36 : decode cX0_goOn 36 = .ok (.if_icmp .gt 35, 3) := by decide +kernel
theorem dX0_goOn_39 : decode cX0_goOn 39 = .ok (.aload_n 0, 1) := by decide +kernel
theorem dX0_goOn_40 : decode cX0_goOn 40 = .ok (.getstatic 129, 3) := by decide +kernel
theorem dX0_goOn_43 : decode cX0_goOn 43 = .ok (.iload 4, 2) := by decide +kernel
theorem dX0_goOn_45 : decode cX0_goOn 45 = .ok (.iaload, 1) := by decide +kernel
theorem dX0_goOn_46 : decode cX0_goOn 46 = .ok (.aload_n 1, 1) := by decide +kernel
theorem dX0_goOn_47 : decode cX0_goOn 47 = .ok (.getstatic 132, 3) := by decide +kernel
theorem dX0_goOn_50 : decode cX0_goOn 50 = .ok (.iload 4, 2) := by decide +kernel
theorem dX0_goOn_52 : decode cX0_goOn 52 = .ok (.iaload, 1) := by decide +kernel
theorem dX0_goOn_53 : decode cX0_goOn 53 = .ok (.invokevirtual 68, 3) := by decide +kernel
theorem dX0_goOn_56 : decode cX0_goOn 56 = .ok (.iadd, 1) := by decide +kernel
theorem dX0_goOn_57 : decode cX0_goOn 57 = .ok (.putfield 113, 3) := by decide +kernel
theorem dX0_goOn_60 : decode cX0_goOn 60 = .ok (.aload_n 0, 1) := by decide +kernel
theorem dX0_goOn_61 : decode cX0_goOn 61 = .ok (.getfield 26, 3) := by decide +kernel
theorem dX0_goOn_64 : decode cX0_goOn 64 = .ok (.iload_n 3, 1) := by decide +kernel
theorem dX0_goOn_65 : decode cX0_goOn 65 = .ok (.bipush 64, 2) := by decide +kernel
theorem dX0_goOn_67 : decode cX0_goOn 67 = .ok (.iastore, 1) := by decide +kernel
theorem dX0_goOn_68 : decode cX0_goOn 68 = .ok (.goto 11, 3) := by decide +kernel
theorem dX0_goOn_71 : decode cX0_goOn 71 = .ok (.aload_n 0, 1) := by decide +kernel
theorem dX0_goOn_72 : decode cX0_goOn 72 = .ok (.aload_n 1, 1) := by decide +kernel
theorem dX0_goOn_73 : decode cX0_goOn 73 = .ok (.iload 4, 2) := by decide +kernel
theorem dX0_goOn_75 : decode cX0_goOn 75 = .ok (.iload_n 3, 1) := by decide +kernel
theorem dX0_goOn_76 : decode cX0_goOn 76 = .ok (.invokevirtual 135, 3) := by decide +kernel
theorem dX0_goOn_79 : decode cX0_goOn 79 = .ok (.return_, 1) := by decide +kernel
set_option maxRecDepth 100000 in
theorem ggX0_readNumber_X4_bit : GoodIn wsX0_readNumber wsX4_bit := goodIn_r _ [11, 12, 13, 14, 15, 16, 17, 18, 10, 19, 43, 44, 45, 46] rfl (by decide +kernel)
set_option maxRecDepth 100000 in
theorem gX0_readNumber_X4_bit : GoodIn wsX0_readNumber (wsV RX0 59 RX4 yX4_bit wsX4_bit) := goodIn_app (goodIn_of _ (by decide +kernel)) ggX0_readNumber_X4_bit
set_option maxRecDepth 100000 in
theorem ggX0_readNumber_X4_number : GoodIn wsX0_readNumber wsX4_number := goodIn_r _ [23, 24, 8, 9, 10, 11, 12, 13, 14, 15, 16, 17, 18, 19, 43, 44, 45, 46] rfl (by decide +kernel)
set_option maxRecDepth 100000 in
theorem gX0_readNumber_X4_number : GoodIn wsX0_readNumber (wsV RX0 68 RX4 yX4_number wsX4_number) := goodIn_app (goodIn_of _ (by decide +kernel)) ggX0_readNumber_X4_number
set_option maxRecDepth 100000 in
theorem ggX0_readNumber_X0_goTo : GoodIn wsX0_readNumber wsX0_goTo := goodIn_r _ [29, 3, 30, 17, 18, 10, 19, 14, 31, 32, 33, 34, 35, 36, 37, 38, 39, 40, 41, 42, 43, 44, 45, 46] rfl (by decide +kernel)
set_option maxRecDepth 100000 in
theorem gX0_readNumber_X0_goTo : GoodIn wsX0_readNumber (wsV RX0 151 RX0 yX0_goTo wsX0_goTo) := goodIn_app (goodIn_of _ (by decide +kernel)) ggX0_readNumber_X0_goTo
set_option maxRecDepth 100000 in
theorem ggX0_readNumber_X4_fail : GoodIn wsX0_readNumber wsX4_fail := goodIn_r _ [19, 14, 43, 44, 45, 46] rfl (by decide +kernel)
set_option maxRecDepth 100000 in
theorem gX0_readNumber_X4_fail : GoodIn wsX0_readNumber (wsV RX0 64 RX4 yX4_fail wsX4_fail) := goodIn_app (goodIn_of _ (by decide +kernel)) ggX0_readNumber_X4_fail
theorem dX0_readNumber_0 : decode cX0_readNumber 0 = .ok (.iload_n 2, 1) := by decide +kernel
theorem dX0_readNumber_1 : decode cX0_readNumber 1 = .ok (.bipush 11, 2) := by decide +kernel
theorem dX0_readNumber_3 : decode cX0_readNumber 3 = .ok (.if_icmp .lt 13, 3) := by decide +kernel
theorem dX0_readNumber_6 : decode cX0_readNumber 6 = .ok (.iload_n 2, 1) := by decide +kernel
theorem dX0_readNumber_7 : decode cX0_readNumber 7 = .ok (.bipush 29, 2) := by decide +kernel
theorem dX0_readNumber_9 : decode cX0_readNumber 9 = .ok (.if_icmp .gt 7, 3) := by decide +kernel
theorem dX0_readNumber_12 : decode cX0_readNumber 12 = .ok (.iconst 1, 1) := by decide +kernel
theorem dX0_readNumber_13 : decode cX0_readNumber 13 = .ok (.goto 4, 3) := by decide +kernel
theorem dX0_readNumber_16 : decode cX0_readNumber 16 = .ok (.iconst 0, 1) := by decide +kernel
theorem dX0_readNumber_17 : decode cX0_readNumber 17 = .ok (.istore 4, 2) := by decide +kernel
theorem dX0_readNumber_19 : decode cX0_readNumber 19 = .ok (.iload 4, 2) := by decide +kernel
theorem dX0_readNumber_21 : decode cX0_readNumber 21 = .ok (.ifCond .eq 15, 3) := by decide +kernel
theorem dX0_readNumber_24 : decode cX0_readNumber 24 = .ok (.aload_n 1, 1) := by decide +kernel
theorem dX0_readNumber_25 : decode cX0_readNumber 25 = .ok (.invokevirtual 59, 3) := by decide +kernel
theorem dX0_readNumber_28 : decode cX0_readNumber 28 = .ok (.iconst 1, 1) := by decide +kernel
theorem dX0_readNumber_29 : decode cX0_readNumber 29 = .ok (.if_icmp .ne 7, 3) := by decide +kernel
theorem dX0_readNumber_32 : decode cX0_readNumber 32 = .ok (.iconst (-1), 1) := by decide +kernel
theorem dX0_readNumber_33 : decode cX0_readNumber 33 = .ok (.goto 4, 3) := by decide +kernel
theorem dX0_readNumber_36 : decode cX0_readNumber 36 = .ok (.iconst 1, 1) := by decide +kernel
theorem dX0_readNumber_37 : decode cX0_readNumber 37 = .ok (.istore 5, 2) := by decide +kernel
theorem dX0_readNumber_39 : decode cX0_readNumber 39 = .ok (.iload 5, 2) := by decide +kernel
theorem dX0_readNumber_41 : decode cX0_readNumber 41 = .ok (.getstatic 139, 3) := by decide +kernel
theorem dX0_readNumber_44 : decode cX0_readNumber 44 = .ok (.iload_n 2, 1) := by decide +kernel
theorem dX0_readNumber_45 : decode cX0_readNumber 45 = .ok (.iaload, 1) := by decide +kernel
theorem dX0_readNumber_46 : decode cX0_readNumber 46 = .ok (.aload_n 1, 1) := by decide +kernel
theorem dX0_readNumber_47 : decode cX0_readNumber 47 = .ok (.getstatic 142, 3) := by decide +kernel
theorem dX0_readNumber_50 : decode cX0_readNumber 50 = .ok (.iload_n 2, 1) := by decide +kernel
theorem dX0_readNumber_51 : decode cX0_readNumber 51 = .ok (.iaload, 1) := by decide +kernel
theorem dX0_readNumber_52 : decode cX0_readNumber 52 = .ok (.invokevirtual 68, 3) := by decide +kernel
theorem dX0_readNumber_55 : decode cX0_readNumber 55 = .ok (.iadd, 1) := by decide +kernel
theorem dX0_readNumber_56 : decode cX0_readNumber 56 = .ok (.imul, 1) := by decide +kernel
theorem dX0_readNumber_57 : decode cX0_readNumber 57 = .ok (.istore 6, 2) := by decide +kernel
theorem dX0_readNumber_59 : decode cX0_readNumber 59 = .ok (.aload_n 0, 1) := by decide +kernel
theorem dX0_readNumber_60 : decode cX0_readNumber 60 = .ok (.getfield 26, 3) := by decide +kernel
theorem dX0_readNumber_63 : decode cX0_readNumber 63 = .ok (.iload_n 3, 1) := by decide +kernel
theorem dX0_readNumber_64 : decode cX0_readNumber 64 = .ok (.iaload, 1) := by decide +kernel
theorem dX0_readNumber_65 : decode cX0_readNumber 65 = .ok (.getstatic 145, 3) := by decide +kernel
theorem dX0_readNumber_68 : decode cX0_readNumber 68 = .ok (.iload_n 2, 1) := by decide +kernel
theorem dX0_readNumber_69 : decode cX0_readNumber 69 = .ok (.iaload, 1) := by decide +kernel
theorem dX0_readNumber_70 : decode cX0_readNumber 70 = .ok (.iadd, 1) := by decide +kernel
theorem dX0_readNumber_71 : decode cX0_readNumber 71 = .ok (.aload_n 1, 1) := by decide +kernel
theorem dX0_readNumber_72 : decode cX0_readNumber 72 = .ok (.getstatic 148, 3) := by decide +kernel
theorem dX0_readNumber_75 : decode cX0_readNumber 75 = .ok (.iload_n 2, 1) := by decide +kernel
theorem dX0_readNumber_76 : decode cX0_readNumber 76 = .ok (.iaload, 1) := by decide +kernel
theorem dX0_readNumber_77 : decode cX0_readNumber 77 = .ok (.invokevirtual 68, 3) := by decide +kernel
theorem dX0_readNumber_80 : decode cX0_readNumber 80 = .ok (.iadd, 1) := by decide +kernel
theorem dX0_readNumber_81 : decode cX0_readNumber 81 = .ok (.istore 7, 2) := by decide +kernel
theorem dX0_readNumber_83 : decode cX0_readNumber 83 = .ok (.iload 6, 2) := by decide +kernel
theorem dX0_readNumber_85 : decode cX0_readNumber 85 = .ok (.ifCond .ne 14, 3) := by decide +kernel
theorem dX0_readNumber_88 : decode cX0_readNumber 88 = .ok (.aload_n 0, 1) := by decide +kernel
theorem dX0_readNumber_89 : decode cX0_readNumber 89 = .ok (.aload_n 1, 1) := by decide +kernel
theorem dX0_readNumber_90 : decode cX0_readNumber 90 = .ok (.iload_n 3, 1) := by decide +kernel
theorem dX0_readNumber_91 : decode cX0_readNumber 91 = .ok (.iload 7, 2) := by decide +kernel
theorem dX0_readNumber_93 : decode cX0_readNumber 93 = .ok (.invokevirtual 151, 3) := by decide +kernel
theorem dX0_readNumber_96 : decode cX0_readNumber 96 = .ok (.goto 51, 3) := by decide +kernel
theorem dX0_readNumber_99 : decode cX0_readNumber 99 = .ok (.iload 7, 2) := by decide +kernel
theorem dX0_readNumber_101 : decode cX0_readNumber 101 = .ok (.bipush 64, 2) := by decide +kernel
theorem dX0_readNumber_103 : decode cX0_readNumber 103 = .ok (.if_icmp .lt 12, 3) := by decide +kernel
theorem dX0_readNumber_106 : decode cX0_readNumber 106 = .ok (.aload_n 1, 1) := by decide +kernel
theorem dX0_readNumber_107 : decode cX0_readNumber 107 = .ok (.bipush 6, 2) := by decide +kernel
theorem dX0_readNumber_109 : decode cX0_readNumber 109 = .ok (.invokevirtual 64, 3) := by decide +kernel
theorem dX0_readNumber_112 : decode cX0_readNumber 112 = .ok (.goto 35, 3) := by decide +kernel
theorem dX0_readNumber_115 : decode cX0_readNumber 115 = .ok (.aload_n 0, 1) := by decide +kernel
theorem dX0_readNumber_116 : decode cX0_readNumber 116 = .ok (.getfield 23, 3) := by decide +kernel
theorem dX0_readNumber_119 : decode cX0_readNumber 119 = .ok (.iload_n 3, 1) := by decide +kernel
theorem dX0_readNumber_120 : decode cX0_readNumber 120 = .ok (.aaload, 1) := by decide +kernel
theorem dX0_readNumber_121 : decode cX0_readNumber 121 = .ok (.iload 7, 2) := by decide +kernel
theorem dX0_readNumber_123 : decode cX0_readNumber 123 = .ok (.iload 6, 2) := by decide +kernel
theorem dX0_readNumber_125 : decode cX0_readNumber 125 = .ok (.iastore, 1) := by decide +kernel
theorem dX0_readNumber_126 : decode cX0_readNumber 126 = .ok (.aload_n 0, 1) := by decide +kernel
theorem dX0_readNumber_127 : decode cX0_readNumber 127 = .ok (.aload_n 1, 1) := by decide +kernel
theorem dX0_readNumber_128 : decode cX0_readNumber 128 = .ok (.iload_n 3, 1) := by decide +kernel
theorem dX0_readNumber_129 : decode cX0_readNumber 129 = .ok (.iload_n 2, 1) := by decide +kernel
theorem dX0_readNumber_130 : decode cX0_readNumber 130 = .ok (.bipush 30, 2) := by decide +kernel
theorem dX0_readNumber_132 : decode cX0_readNumber 132 = .ok (.if_icmp .lt 8, 3) := by decide +kernel
theorem dX0_readNumber_135 : decode cX0_readNumber 135 = .ok (.bipush 64, 2) := by decide +kernel
theorem dX0_readNumber_137 : decode cX0_readNumber 137 = .ok (.goto 7, 3) := by decide +kernel
theorem dX0_readNumber_140 : decode cX0_readNumber 140 = .ok (.iload 7, 2) := by decide +kernel
theorem dX0_readNumber_142 : decode cX0_readNumber 142 = .ok (.iconst 1, 1) := by decide +kernel
theorem dX0_readNumber_143 : decode cX0_readNumber 143 = .ok (.iadd, 1) := by decide +kernel
theorem dX0_readNumber_144 : decode cX0_readNumber 144 = .ok (.invokevirtual 151, 3) := by decide +kernel
theorem dX0_readNumber_147 : decode cX0_readNumber 147 = .ok (.return_, 1) := by decide +kernel
set_option maxRecDepth 100000 in
theorem ggX0_goTo_X4_fail : GoodIn wsX0_goTo wsX4_fail := goodIn_r _ [6, 7, 20, 21, 22, 23] rfl (by decide +kernel)
set_option maxRecDepth 100000 in
theorem gX0_goTo_X4_fail : GoodIn wsX0_goTo (wsV RX0 64 RX4 yX4_fail wsX4_fail) := goodIn_app (goodIn_of _ (by decide +kernel)) ggX0_goTo_X4_fail
theorem dX0_goTo_0 : decode cX0_goTo 0 = .ok (.iload_n 3, 1) := by decide +kernel
theorem dX0_goTo_1 : decode cX0_goTo 1 = .ok (.bipush 64, 2) := by decide +kernel
theorem dX0_goTo_3 : decode cX0_goTo 3 = .ok (.if_icmp .le 9, 3) := by decide +kernel
theorem dX0_goTo_6 : decode cX0_goTo 6 = .ok (.aload_n 1, 1) := by decide +kernel
theorem dX0_goTo_7 : decode cX0_goTo 7 = .ok (.bipush 6, 2) := by decide +kernel
theorem dX0_goTo_9 : decode cX0_goTo 9 = .ok (.invokevirtual 64, 3) := by decide +kernel
theorem dX0_goTo_12 : decode cX0_goTo 12 = .ok (.aload_n 0, 1) := by decide +kernel
theorem dX0_goTo_13 : decode cX0_goTo 13 = .ok (.getfield 26, 3) := by decide +kernel
theorem dX0_goTo_16 : decode cX0_goTo 16 = .ok (.iload_n 2, 1) := by decide +kernel
theorem dX0_goTo_17 : decode cX0_goTo 17 = .ok (.iload_n 3, 1) := by decide +kernel
theorem dX0_goTo_18 : decode cX0_goTo 18 = .ok (.iastore, 1) := by decide +kernel
theorem dX0_goTo_19 : decode cX0_goTo 19 = .ok (.return_, 1) := by decide +kernel
set_option maxRecDepth 100000 in
theorem ggX0_addGuesses_X0_index : GoodIn wsX0_addGuesses wsX0_index := goodIn_r _ [9, 3, 23, 24, 25, 26, 27, 28, 29, 30, 31, 32, 33, 34] rfl (by decide +kernel)
set_option maxRecDepth 100000 in
theorem gX0_addGuesses_X0_index : GoodIn wsX0_addGuesses (wsV RX0 154 RX0 yX0_index wsX0_index) := goodIn_app (goodIn_of _ (by decide +kernel)) ggX0_addGuesses_X0_index
set_option maxRecDepth 100000 in
theorem ggX0_addGuesses_X0_isCoded : GoodIn wsX0_addGuesses wsX0_isCoded := goodIn_r _ [13, 14, 23, 24, 25, 26, 27, 28, 29, 30, 31, 32, 33, 34] rfl (by decide +kernel)
set_option maxRecDepth 100000 in
theorem gX0_addGuesses_X0_isCoded : GoodIn wsX0_addGuesses (wsV RX0 102 RX0 yX0_isCoded wsX0_isCoded) := goodIn_app (goodIn_of _ (by decide +kernel)) ggX0_addGuesses_X0_isCoded
set_option maxRecDepth 100000 in
theorem ggX0_addGuesses_X0_guess : GoodIn wsX0_addGuesses wsX0_guess := goodIn_r _ [18, 3, 4, 1, 5, 6, 7, 8, 9, 19, 20, 21, 22, 14, 23, 24, 25, 26, 27, 28, 29, 30, 31, 32, 33, 34] rfl (by decide +kernel)
set_option maxRecDepth 100000 in
theorem gX0_addGuesses_X0_guess : GoodIn wsX0_addGuesses (wsV RX0 158 RX0 yX0_guess wsX0_guess) := goodIn_app (goodIn_of _ (by decide +kernel)) ggX0_addGuesses_X0_guess
set_option maxRecDepth 100000 in
theorem ggX0_addGuesses_X0_kind : GoodIn wsX0_addGuesses wsX0_kind := goodIn_r _ [22, 14, 23, 24, 25, 26, 27, 28, 29, 30, 31, 32, 33, 34] rfl (by decide +kernel)
set_option maxRecDepth 100000 in
theorem gX0_addGuesses_X0_kind : GoodIn wsX0_addGuesses (wsV RX0 161 RX0 yX0_kind wsX0_kind) := goodIn_app (goodIn_of _ (by decide +kernel)) ggX0_addGuesses_X0_kind
theorem dX0_addGuesses_0 : decode cX0_addGuesses 0 = .ok (.iconst 0, 1) := by decide +kernel
theorem dX0_addGuesses_1 : decode cX0_addGuesses 1 = .ok (.istore_n 1, 1) := by decide +kernel
theorem dX0_addGuesses_2 : decode cX0_addGuesses 2 = .ok (.iload_n 1, 1) := by decide +kernel
theorem dX0_addGuesses_3 : decode cX0_addGuesses 3 = .ok (.iconst 4, 1) := by decide +kernel
theorem dX0_addGuesses_4 : decode cX0_addGuesses 4 = .ok (.if_icmp .gt 16, 3) := by decide +kernel
theorem dX0_addGuesses_7 : decode cX0_addGuesses 7 = .ok (.aload_n 0, 1) := by decide +kernel
theorem dX0_addGuesses_8 : decode cX0_addGuesses 8 = .ok (.getfield 29, 3) := by decide +kernel
theorem dX0_addGuesses_11 : decode cX0_addGuesses 11 = .ok (.iload_n 1, 1) := by decide +kernel
theorem dX0_addGuesses_12 : decode cX0_addGuesses 12 = .ok (.iconst 0, 1) := by decide +kernel
theorem dX0_addGuesses_13 : decode cX0_addGuesses 13 = .ok (.iastore, 1) := by decide +kernel
theorem dX0_addGuesses_14 : decode cX0_addGuesses 14 = .ok (.iinc 1 1, 3) := by decide +kernel
theorem dX0_addGuesses_17 : decode cX0_addGuesses 17 = .ok (.goto (-15), 3) := by decide +kernel
theorem dX0_addGuesses_20 : decode cX0_addGuesses 20 = .ok (.iconst 0, 1) := by decide +kernel
theorem dX0_addGuesses_21 : decode cX0_addGuesses 21 = .ok (.istore_n 1, 1) := by decide +kernel
theorem dX0_addGuesses_22 : decode cX0_addGuesses 22 = .ok (.iload_n 1, 1) := by decide +kernel
theorem dX0_addGuesses_23 : decode cX0_addGuesses 23 = .ok (.aload_n 0, 1) := by decide +kernel
theorem dX0_addGuesses_24 : decode cX0_addGuesses 24 = .ok (.getfield 36, 3) := by decide +kernel
theorem dX0_addGuesses_27 : decode cX0_addGuesses 27 = .ok (.if_icmp .ge 75, 3) := by decide +kernel
theorem dX0_addGuesses_30 : decode cX0_addGuesses 30 = .ok (.iconst 0, 1) := by decide +kernel
theorem dX0_addGuesses_31 : decode cX0_addGuesses 31 = .ok (.istore_n 2, 1) := by decide +kernel
theorem dX0_addGuesses_32 : decode cX0_addGuesses 32 = .ok (.iload_n 2, 1) := by decide +kernel
theorem dX0_addGuesses_33 : decode cX0_addGuesses 33 = .ok (.aload_n 0, 1) := by decide +kernel
theorem dX0_addGuesses_34 : decode cX0_addGuesses 34 = .ok (.getfield 32, 3) := by decide +kernel
theorem dX0_addGuesses_37 : decode cX0_addGuesses 37 = .ok (.if_icmp .ge 59, 3) := by decide +kernel
theorem dX0_addGuesses_40 : decode cX0_addGuesses 40 = .ok (.aload_n 0, 1) := by decide +kernel
theorem dX0_addGuesses_41 : decode cX0_addGuesses 41 = .ok (.iload_n 2, 1) := by decide +kernel
theorem dX0_addGuesses_42 : decode cX0_addGuesses 42 = .ok (.iload_n 1, 1) := by decide +kernel
theorem dX0_addGuesses_43 : decode cX0_addGuesses 43 = .ok (.invokevirtual 154, 3) := by decide +kernel
theorem dX0_addGuesses_46 : decode cX0_addGuesses 46 = .ok (.istore_n 3, 1) := by decide +kernel
theorem dX0_addGuesses_47 : decode cX0_addGuesses 47 = .ok (.aload_n 0, 1) := by decide +kernel
theorem dX0_addGuesses_48 : decode cX0_addGuesses 48 = .ok (.iload_n 3, 1) := by decide +kernel
theorem dX0_addGuesses_49 : decode cX0_addGuesses 49 = .ok (.invokevirtual 102, 3) := by decide +kernel
theorem dX0_addGuesses_52 : decode cX0_addGuesses 52 = .ok (.ifCond .eq 38, 3) := by decide +kernel
theorem dX0_addGuesses_55 : decode cX0_addGuesses 55 = .ok (.aload_n 0, 1) := by decide +kernel
theorem dX0_addGuesses_56 : decode cX0_addGuesses 56 = .ok (.getfield 23, 3) := by decide +kernel
theorem dX0_addGuesses_59 : decode cX0_addGuesses 59 = .ok (.iload_n 3, 1) := by decide +kernel
theorem dX0_addGuesses_60 : decode cX0_addGuesses 60 = .ok (.aaload, 1) := by decide +kernel
theorem dX0_addGuesses_61 : decode cX0_addGuesses 61 = .ok (.iconst 0, 1) := by decide +kernel
theorem dX0_addGuesses_62 : decode cX0_addGuesses 62 = .ok (.dup2, 1) := by decide +kernel
theorem dX0_addGuesses_63 : decode cX0_addGuesses 63 = .ok (.iaload, 1) := by decide +kernel
theorem dX0_addGuesses_64 : decode cX0_addGuesses 64 = .ok (.aload_n 0, 1) := by decide +kernel
theorem dX0_addGuesses_65 : decode cX0_addGuesses 65 = .ok (.iload_n 2, 1) := by decide +kernel
theorem dX0_addGuesses_66 : decode cX0_addGuesses 66 = .ok (.iload_n 1, 1) := by decide +kernel
theorem dX0_addGuesses_67 : decode cX0_addGuesses 67 = .ok (.invokevirtual 158, 3) := by decide +kernel
theorem dX0_addGuesses_70 : decode cX0_addGuesses 70 = .ok (.iadd, 1) := by decide +kernel
theorem dX0_addGuesses_71 : decode cX0_addGuesses 71 = .ok (.iastore, 1) := by decide +kernel
theorem dX0_addGuesses_72 : decode cX0_addGuesses 72 = .ok (.aload_n 0, 1) := by decide +kernel
theorem dX0_addGuesses_73 : decode cX0_addGuesses 73 = .ok (.getfield 29, 3) := by decide +kernel
theorem dX0_addGuesses_76 : decode cX0_addGuesses 76 = .ok (.aload_n 0, 1) := by decide +kernel
theorem dX0_addGuesses_77 : decode cX0_addGuesses 77 = .ok (.iload_n 3, 1) := by decide +kernel
theorem dX0_addGuesses_78 : decode cX0_addGuesses 78 = .ok (.invokevirtual 161, 3) := by decide +kernel
theorem dX0_addGuesses_81 : decode cX0_addGuesses 81 = .ok (.aload_n 0, 1) := by decide +kernel
theorem dX0_addGuesses_82 : decode cX0_addGuesses 82 = .ok (.getfield 23, 3) := by decide +kernel
theorem dX0_addGuesses_85 : decode cX0_addGuesses 85 = .ok (.iload_n 3, 1) := by decide +kernel
theorem dX0_addGuesses_86 : decode cX0_addGuesses 86 = .ok (.aaload, 1) := by decide +kernel
theorem dX0_addGuesses_87 : decode cX0_addGuesses 87 = .ok (.iconst 0, 1) := by decide +kernel
theorem dX0_addGuesses_88 : decode cX0_addGuesses 88 = .ok (.iaload, 1) := by decide +kernel
theorem dX0_addGuesses_89 : decode cX0_addGuesses 89 = .ok (.iastore, 1) := by decide +kernel
theorem dX0_addGuesses_90 : decode cX0_addGuesses 90 = .ok (.iinc 2 1, 3) := by decide +kernel
theorem dX0_addGuesses_93 : decode cX0_addGuesses 93 = .ok (.goto (-61), 3) := by decide +kernel
theorem dX0_addGuesses_96 : decode cX0_addGuesses 96 = .ok (.iinc 1 1, 3) := by decide +kernel
theorem dX0_addGuesses_99 : decode cX0_addGuesses 99 = .ok (.goto (-77), 3) := by decide +kernel
theorem dX0_addGuesses_102 : decode cX0_addGuesses 102 = .ok (.return_, 1) := by decide +kernel
set_option maxRecDepth 100000 in
theorem ggX0_guess_X0_index : GoodIn wsX0_guess wsX0_index := goodIn_r _ [8, 1, 14, 15, 16, 17, 18, 19, 20, 21, 22, 23, 24, 25] rfl (by decide +kernel)
set_option maxRecDepth 100000 in
theorem gX0_guess_X0_index : GoodIn wsX0_guess (wsV RX0 154 RX0 yX0_index wsX0_index) := goodIn_app (goodIn_of _ (by decide +kernel)) ggX0_guess_X0_index
set_option maxRecDepth 100000 in
theorem ggX0_guess_X0_kind : GoodIn wsX0_guess wsX0_kind := goodIn_r _ [12, 13, 14, 15, 16, 17, 18, 19, 20, 21, 22, 23, 24, 25] rfl (by decide +kernel)
set_option maxRecDepth 100000 in
theorem gX0_guess_X0_kind : GoodIn wsX0_guess (wsV RX0 161 RX0 yX0_kind wsX0_kind) := goodIn_app (goodIn_of _ (by decide +kernel)) ggX0_guess_X0_kind
theorem dX0_guess_0 : decode cX0_guess 0 = .ok (.aload_n 0, 1) := by decide +kernel
theorem dX0_guess_1 : decode cX0_guess 1 = .ok (.iload_n 1, 1) := by decide +kernel
theorem dX0_guess_2 : decode cX0_guess 2 = .ok (.iload_n 2, 1) := by decide +kernel
theorem dX0_guess_3 : decode cX0_guess 3 = .ok (.invokevirtual 154, 3) := by decide +kernel
theorem dX0_guess_6 : decode cX0_guess 6 = .ok (.istore_n 3, 1) := by decide +kernel
theorem dX0_guess_7 : decode cX0_guess 7 = .ok (.iload_n 3, 1) := by decide +kernel
theorem dX0_guess_8 : decode cX0_guess 8 = .ok (.iconst 1, 1) := by decide +kernel
theorem dX0_guess_9 : decode cX0_guess 9 = .ok (.isub, 1) := by decide +kernel
theorem dX0_guess_10 : decode cX0_guess 10 = .ok (.istore 4, 2) := by decide +kernel
theorem dX0_guess_12 : decode cX0_guess 12 = .ok (.iload_n 3, 1) := by decide +kernel
theorem dX0_guess_13 : decode cX0_guess 13 = .ok (.aload_n 0, 1) := by decide +kernel
theorem dX0_guess_14 : decode cX0_guess 14 = .ok (.getfield 32, 3) := by decide +kernel
theorem dX0_guess_17 : decode cX0_guess 17 = .ok (.isub, 1) := by decide +kernel
theorem dX0_guess_18 : decode cX0_guess 18 = .ok (.istore 5, 2) := by decide +kernel
theorem dX0_guess_20 : decode cX0_guess 20 = .ok (.iload_n 1, 1) := by decide +kernel
theorem dX0_guess_21 : decode cX0_guess 21 = .ok (.ifCond .le 21, 3) := by decide +kernel
theorem dX0_guess_24 : decode cX0_guess 24 = .ok (.aload_n 0, 1) := by decide +kernel
theorem dX0_guess_25 : decode cX0_guess 25 = .ok (.iload 4, 2) := by decide +kernel
theorem dX0_guess_27 : decode cX0_guess 27 = .ok (.invokevirtual 161, 3) := by decide +kernel
theorem dX0_guess_30 : decode cX0_guess 30 = .ok (.aload_n 0, 1) := by decide +kernel
theorem dX0_guess_31 : decode cX0_guess 31 = .ok (.iload_n 3, 1) := by decide +kernel
theorem dX0_guess_32 : decode cX0_guess 32 = .ok (.invokevirtual 161, 3) := by decide +kernel
theorem dX0_guess_35 : decode cX0_guess 35 = .ok (.if_icmp .ne 7, 3) := by decide +kernel
theorem dX0_guess_38 : decode cX0_guess 38 = .ok (.iconst 1, 1) := by decide +kernel
theorem dX0_guess_39 : decode cX0_guess 39 = .ok (.goto 4, 3) := by decide +kernel
theorem dX0_guess_42 : decode cX0_guess 42 = .ok (.iconst 0, 1) := by decide +kernel
theorem dX0_guess_43 : decode cX0_guess 43 = .ok (.istore 6, 2) := by decide +kernel
theorem dX0_guess_45 : decode cX0_guess 45 = .ok (.iload_n 2, 1) := by decide +kernel
theorem dX0_guess_46 : decode cX0_guess 46 = .ok (.ifCond .le 21, 3) := by decide +kernel
theorem dX0_guess_49 : decode cX0_guess 49 = .ok (.aload_n 0, 1) := by decide +kernel
theorem dX0_guess_50 : decode cX0_guess 50 = .ok (.iload 5, 2) := by decide +kernel
theorem dX0_guess_52 : decode cX0_guess 52 = .ok (.invokevirtual 161, 3) := by decide +kernel
theorem dX0_guess_55 : decode cX0_guess 55 = .ok (.aload_n 0, 1) := by decide +kernel
theorem dX0_guess_56 : decode cX0_guess 56 = .ok (.iload_n 3, 1) := by decide +kernel
theorem dX0_guess_57 : decode cX0_guess 57 = .ok (.invokevirtual 161, 3) := by decide +kernel
theorem dX0_guess_60 : decode cX0_guess 60 = .ok (.if_icmp .ne 7, 3) := by decide +kernel
theorem dX0_guess_63 : decode cX0_guess 63 = .ok (.iconst 1, 1) := by decide +kernel
theorem dX0_guess_64 : decode cX0_guess 64 = .ok (.goto 4, 3) := by decide +kernel
theorem dX0_guess_67 : decode cX0_guess 67 = .ok (.iconst 0, 1) := by decide +kernel
theorem dX0_guess_68 : decode cX0_guess 68 = .ok (.istore 7, 2) := by decide +kernel
theorem dX0_guess_70 : decode cX0_guess 70 = .ok (.iload 6, 2) := by decide +kernel
theorem dX0_guess_72 : decode cX0_guess 72 = .ok (.ifCond .eq 30, 3) := by decide +kernel
theorem dX0_guess_75 : decode cX0_guess 75 = .ok (.iload 7, 2) := by decide +kernel
theorem dX0_guess_77 : decode cX0_guess 77 = .ok (.ifCond .eq 25, 3) := by decide +kernel
theorem dX0_guess_80 : decode cX0_guess 80 = .ok (.aload_n 0, 1) := by decide +kernel
theorem dX0_guess_81 : decode cX0_guess 81 = .ok (.getfield 23, 3) := by decide +kernel
theorem dX0_guess_84 : decode cX0_guess 84 = .ok (.iload 4, 2) := by decide +kernel
theorem dX0_guess_86 : decode cX0_guess 86 = .ok (.aaload, 1) := by decide +kernel
theorem dX0_guess_87 : decode cX0_guess 87 = .ok (.iconst 0, 1) := by decide +kernel
theorem dX0_guess_88 : decode cX0_guess 88 = .ok (.iaload, 1) := by decide +kernel
theorem dX0_guess_89 : decode cX0_guess 89 = .ok (.aload_n 0, 1) := by decide +kernel
theorem dX0_guess_90 : decode cX0_guess 90 = .ok (.getfield 23, 3) := by decide +kernel
theorem dX0_guess_93 : decode cX0_guess 93 = .ok (.iload 5, 2) := by decide +kernel
theorem dX0_guess_95 : decode cX0_guess 95 = .ok (.aaload, 1) := by decide +kernel
theorem dX0_guess_96 : decode cX0_guess 96 = .ok (.iconst 0, 1) := by decide +kernel
theorem dX0_guess_97 : decode cX0_guess 97 = .ok (.iaload, 1) := by decide +kernel
theorem dX0_guess_98 : decode cX0_guess 98 = .ok (.iadd, 1) := by decide +kernel
theorem dX0_guess_99 : decode cX0_guess 99 = .ok (.iconst 2, 1) := by decide +kernel
theorem dX0_guess_100 : decode cX0_guess 100 = .ok (.idiv, 1) := by decide +kernel
theorem dX0_guess_101 : decode cX0_guess 101 = .ok (.ireturn, 1) := by decide +kernel
theorem dX0_guess_102 : decode cX0_guess 102 = .ok (.iload 6, 2) := by decide +kernel
theorem dX0_guess_104 : decode cX0_guess 104 = .ok (.ifCond .eq 13, 3) := by decide +kernel
theorem dX0_guess_107 : decode cX0_guess 107 = .ok (.aload_n 0, 1) := by decide +kernel
theorem dX0_guess_108 : decode cX0_guess 108 = .ok (.getfield 23, 3) := by decide +kernel
theorem dX0_guess_111 : decode cX0_guess 111 = .ok (.iload 4, 2) := by decide +kernel
theorem dX0_guess_113 : decode cX0_guess 113 = .ok (.aaload, 1) := by decide +kernel
theorem dX0_guess_114 : decode cX0_guess 114 = .ok (.iconst 0, 1) := by decide +kernel
theorem dX0_guess_115 : decode cX0_guess 115 = .ok (.iaload, 1) := by decide +kernel
theorem dX0_guess_116 : decode cX0_guess 116 = .ok (.ireturn, 1) := by decide +kernel
theorem dX0_guess_117 : decode cX0_guess 117 = .ok (.iload 7, 2) := by decide +kernel
theorem dX0_guess_119 : decode cX0_guess 119 = .ok (.ifCond .eq 15, 3) := by decide +kernel
theorem dX0_guess_122 : decode cX0_guess 122 = .ok (.aload_n 0, 1) := by decide +kernel
theorem dX0_guess_123 : decode cX0_guess 123 = .ok (.getfield 23, 3) := by decide +kernel
theorem dX0_guess_126 : decode cX0_guess 126 = .ok (.iload 5, 2) := by decide +kernel
theorem dX0_guess_128 : decode cX0_guess 128 = .ok (.aaload, 1) := by decide +kernel
theorem dX0_guess_129 : decode cX0_guess 129 = .ok (.iconst 0, 1) := by decide +kernel
theorem dX0_guess_130 : decode cX0_guess 130 = .ok (.iaload, 1) := by decide +kernel
theorem dX0_guess_131 : decode cX0_guess 131 = .ok (.goto 13, 3) := by decide +kernel
theorem dX0_guess_134 : decode cX0_guess 134 = .ok (.aload_n 0, 1) := by decide +kernel
theorem dX0_guess_135 : decode cX0_guess 135 = .ok (.getfield 29, 3) := by decide +kernel
theorem dX0_guess_138 : decode cX0_guess 138 = .ok (.aload_n 0, 1) := by decide +kernel
theorem dX0_guess_139 : decode cX0_guess 139 = .ok (.iload_n 3, 1) := by decide +kernel
theorem dX0_guess_140 : decode cX0_guess 140 = .ok (.invokevirtual 161, 3) := by decide +kernel
theorem dX0_guess_143 : decode cX0_guess 143 = .ok (.iaload, 1) := by decide +kernel
theorem dX0_guess_144 : decode cX0_guess 144 = .ok (.ireturn, 1) := by decide +kernel
theorem dX0_kind_0 : decode cX0_kind 0 = .ok (.aload_n 0, 1) := by decide +kernel
theorem dX0_kind_1 : decode cX0_kind 1 = .ok (.getfield 9, 3) := by decide +kernel
theorem dX0_kind_4 : decode cX0_kind 4 = .ok (.iload_n 1, 1) := by decide +kernel
theorem dX0_kind_5 : decode cX0_kind 5 = .ok (.iaload, 1) := by decide +kernel
theorem dX0_kind_6 : decode cX0_kind 6 = .ok (.iconst 3, 1) := by decide +kernel
theorem dX0_kind_7 : decode cX0_kind 7 = .ok (.if_icmp .ne 7, 3) := by decide +kernel
theorem dX0_kind_10 : decode cX0_kind 10 = .ok (.iconst 1, 1) := by decide +kernel
theorem dX0_kind_11 : decode cX0_kind 11 = .ok (.goto 9, 3) := by decide +kernel
theorem dX0_kind_14 : decode cX0_kind 14 = .ok (.aload_n 0, 1) := by decide +kernel
theorem dX0_kind_15 : decode cX0_kind 15 = .ok (.getfield 9, 3) := by decide +kernel
theorem dX0_kind_18 : decode cX0_kind 18 = .ok (.iload_n 1, 1) := by decide +kernel
theorem dX0_kind_19 : decode cX0_kind 19 = .ok (.iaload, 1) := by decide +kernel
theorem dX0_kind_20 : decode cX0_kind 20 = .ok (.ireturn, 1) := by decide +kernel
set_option maxRecDepth 100000 in
theorem ggX1_init_X5_init : GoodIn wsX1_init wsX5_init := goodIn_r _ [14, 15, 2, 3, 4, 16, 25, 26, 27, 28] rfl (by decide +kernel)
