set_option maxRecDepth 100000 in
theorem gX6_block_X0_mode : GoodIn wsX6_block (wsV RX6 156 RX0 yX0_mode wsX0_mode) := goodIn_app (goodIn_of _ (by decide +kernel)) ggX6_block_X0_mode
set_option maxRecDepth 100000 in
theorem ggX6_block_X0_across : GoodIn wsX6_block wsX0_across := goodIn_r _ [28, 29, 52, 53, 54, 55, 56, 57, 58, 59, 60, 61, 62, 63] rfl (by decide +kernel)
set_option maxRecDepth 100000 in
theorem gX6_block_X0_across : GoodIn wsX6_block (wsV RX6 160 RX0 yX0_across wsX0_across) := goodIn_app (goodIn_of _ (by decide +kernel)) ggX6_block_X0_across
set_option maxRecDepth 100000 in
theorem ggX6_block_X0_down : GoodIn wsX6_block wsX0_down := goodIn_r _ [33, 34, 52, 53, 54, 55, 56, 57, 58, 59, 60, 61, 62, 63] rfl (by decide +kernel)
set_option maxRecDepth 100000 in
theorem gX6_block_X0_down : GoodIn wsX6_block (wsV RX6 163 RX0 yX0_down wsX0_down) := goodIn_app (goodIn_of _ (by decide +kernel)) ggX6_block_X0_down
set_option maxRecDepth 100000 in
theorem ggX6_block_X0_number : GoodIn wsX6_block wsX0_number := goodIn_r _ [38, 39, 52, 53, 54, 55, 56, 57, 58, 59, 60, 61, 62, 63] rfl (by decide +kernel)
set_option maxRecDepth 100000 in
theorem gX6_block_X0_number : GoodIn wsX6_block (wsV RX6 166 RX0 yX0_number wsX0_number) := goodIn_app (goodIn_of _ (by decide +kernel)) ggX6_block_X0_number
theorem dX6_block_0 : decode cX6_block 0 = .ok (.aload_n 0, 1) := by decide +kernel
theorem dX6_block_1 : decode cX6_block 1 = .ok (.getfield 102, 3) := by decide +kernel
theorem dX6_block_4 : decode cX6_block 4 = .ok (.ifCond .ne 13, 3) := by decide +kernel
theorem dX6_block_7 : decode cX6_block 7 = .ok (.new 60, 3) := by decide +kernel
theorem dX6_block_10 : decode cX6_block 10 = .ok (.dup, 1) := by decide +kernel
theorem dX6_block_11 : decode cX6_block 11 = .ok (.ldc 135, 2) := by decide +kernel
theorem dX6_block_13 : decode cX6_block 13 = .ok (.invokespecial 64, 3) := by decide +kernel
theorem dX6_block_16 : decode cX6_block 16 = .ok (.athrow, 1) := by decide +kernel
theorem dX6_block_17 : decode cX6_block 17 = .ok (.aload_n 0, 1) := by decide +kernel
theorem dX6_block_18 : decode cX6_block 18 = .ok (.getfield 36, 3) := by decide +kernel
theorem dX6_block_21 : decode cX6_block 21 = .ok (.iload_n 1, 1) := by decide +kernel
theorem dX6_block_22 : decode cX6_block 22 = .ok (.iload_n 2, 1) := by decide +kernel
theorem dX6_block_23 : decode cX6_block 23 = .ok (.invokevirtual 150, 3) := by decide +kernel
theorem dX6_block_26 : decode cX6_block 26 = .ok (.ifCond .ne 13, 3) := by decide +kernel
theorem dX6_block_29 : decode cX6_block 29 = .ok (.new 141, 3) := by decide +kernel
theorem dX6_block_32 : decode cX6_block 32 = .ok (.dup, 1) := by decide +kernel
theorem dX6_block_33 : decode cX6_block 33 = .ok (.ldc 151, 2) := by decide +kernel
theorem dX6_block_35 : decode cX6_block 35 = .ok (.invokespecial 145, 3) := by decide +kernel
theorem dX6_block_38 : decode cX6_block 38 = .ok (.athrow, 1) := by decide +kernel
theorem dX6_block_39 : decode cX6_block 39 = .ok (.aload_n 0, 1) := by decide +kernel
theorem dX6_block_40 : decode cX6_block 40 = .ok (.getfield 36, 3) := by decide +kernel
theorem dX6_block_43 : decode cX6_block 43 = .ok (.iload_n 1, 1) := by decide +kernel
theorem dX6_block_44 : decode cX6_block 44 = .ok (.iload_n 2, 1) := by decide +kernel
theorem dX6_block_45 : decode cX6_block 45 = .ok (.invokevirtual 153, 3) := by decide +kernel
theorem dX6_block_48 : decode cX6_block 48 = .ok (.istore 4, 2) := by decide +kernel
theorem dX6_block_50 : decode cX6_block 50 = .ok (.iload_n 3, 1) := by decide +kernel
theorem dX6_block_51 : decode cX6_block 51 = .ok (.tableswitch 70 0 3 #[29, 39, 49, 59], 29) := by decide +kernel
theorem dX6_block_80 : decode cX6_block 80 = .ok (.aload_n 0, 1) := by decide +kernel
theorem dX6_block_81 : decode cX6_block 81 = .ok (.getfield 36, 3) := by decide +kernel
theorem dX6_block_84 : decode cX6_block 84 = .ok (.iload 4, 2) := by decide +kernel
theorem dX6_block_86 : decode cX6_block 86 = .ok (.invokevirtual 156, 3) := by decide +kernel
theorem dX6_block_89 : decode cX6_block 89 = .ok (.ireturn, 1) := by decide +kernel
theorem dX6_block_90 : decode cX6_block 90 = .ok (.aload_n 0, 1) := by decide +kernel
theorem dX6_block_91 : decode cX6_block 91 = .ok (.getfield 36, 3) := by decide +kernel
theorem dX6_block_94 : decode cX6_block 94 = .ok (.iload 4, 2) := by decide +kernel
theorem dX6_block_96 : decode cX6_block 96 = .ok (.invokevirtual 160, 3) := by decide +kernel
theorem dX6_block_99 : decode cX6_block 99 = .ok (.ireturn, 1) := by decide +kernel
theorem dX6_block_100 : decode cX6_block 100 = .ok (.aload_n 0, 1) := by decide +kernel
theorem dX6_block_101 : decode cX6_block 101 = .ok (.getfield 36, 3) := by decide +kernel
theorem dX6_block_104 : decode cX6_block 104 = .ok (.iload 4, 2) := by decide +kernel
theorem dX6_block_106 : decode cX6_block 106 = .ok (.invokevirtual 163, 3) := by decide +kernel
theorem dX6_block_109 : decode cX6_block 109 = .ok (.ireturn, 1) := by decide +kernel
theorem dX6_block_110 : decode cX6_block 110 = .ok (.aload_n 0, 1) := by decide +kernel
theorem dX6_block_111 : decode cX6_block 111 = .ok (.getfield 36, 3) := by decide +kernel
theorem dX6_block_114 : decode cX6_block 114 = .ok (.iload 4, 2) := by decide +kernel
theorem dX6_block_116 : decode cX6_block 116 = .ok (.iconst 0, 1) := by decide +kernel
theorem dX6_block_117 : decode cX6_block 117 = .ok (.invokevirtual 166, 3) := by decide +kernel
theorem dX6_block_120 : decode cX6_block 120 = .ok (.ireturn, 1) := by decide +kernel
theorem dX6_block_121 : decode cX6_block 121 = .ok (.new 71, 3) := by decide +kernel
theorem dX6_block_124 : decode cX6_block 124 = .ok (.dup, 1) := by decide +kernel
theorem dX6_block_125 : decode cX6_block 125 = .ok (.ldc 169, 2) := by decide +kernel
theorem dX6_block_127 : decode cX6_block 127 = .ok (.invokespecial 75, 3) := by decide +kernel
theorem dX6_block_130 : decode cX6_block 130 = .ok (.athrow, 1) := by decide +kernel
set_option maxRecDepth 100000 in
theorem ggX6_taken_X4_position : GoodIn wsX6_taken wsX4_position := goodIn_r _ [6, 7, 20, 21, 22, 23] rfl (by decide +kernel)
set_option maxRecDepth 100000 in
theorem gX6_taken_X4_position : GoodIn wsX6_taken (wsV RX6 171 RX4 yX4_position wsX4_position) := goodIn_app (goodIn_of _ (by decide +kernel)) ggX6_taken_X4_position
theorem dX6_taken_0 : decode cX6_taken 0 = .ok (.aload_n 0, 1) := by decide +kernel
theorem dX6_taken_1 : decode cX6_taken 1 = .ok (.getfield 12, 3) := by decide +kernel
theorem dX6_taken_4 : decode cX6_taken 4 = .ok (.invokevirtual 171, 3) := by decide +kernel
theorem dX6_taken_7 : decode cX6_taken 7 = .ok (.ireturn, 1) := by decide +kernel
set_option maxRecDepth 100000 in
theorem ggX6_sum_X3_total : GoodIn wsX6_sum wsX3_total := goodIn_r _ [7, 8, 9, 10, 23, 24, 25] rfl (by decide +kernel)
set_option maxRecDepth 100000 in
theorem gX6_sum_X3_total : GoodIn wsX6_sum (wsV RX6 174 RX3 yX3_total wsX3_total) := goodIn_app (goodIn_of _ (by decide +kernel)) ggX6_sum_X3_total
theorem dX6_sum_0 : decode cX6_sum 0 = .ok (.aload_n 0, 1) := by decide +kernel
theorem dX6_sum_1 : decode cX6_sum 1 = .ok (.getfield 102, 3) := by decide +kernel
theorem dX6_sum_4 : decode cX6_sum 4 = .ok (.ifCond .eq 13, 3) := by decide +kernel
theorem dX6_sum_7 : decode cX6_sum 7 = .ok (.aload_n 0, 1) := by decide +kernel
theorem dX6_sum_8 : decode cX6_sum 8 = .ok (.getfield 46, 3) := by decide +kernel
theorem dX6_sum_11 : decode cX6_sum 11 = .ok (.invokevirtual 174, 3) := by decide +kernel
theorem dX6_sum_14 : decode cX6_sum 14 = .ok (.goto 4, 3) := by decide +kernel
theorem dX6_sum_17 : decode cX6_sum 17 = .ok (.iconst 0, 1) := by decide +kernel
theorem dX6_sum_18 : decode cX6_sum 18 = .ok (.ireturn, 1) := by decide +kernel
theorem dX6_takeHeader_0 : decode cX6_takeHeader 0 = .ok (.aload_n 0, 1) := by decide +kernel
theorem dX6_takeHeader_1 : decode cX6_takeHeader 1 = .ok (.getfield 26, 3) := by decide +kernel
theorem dX6_takeHeader_4 : decode cX6_takeHeader 4 = .ok (.astore_n 1, 1) := by decide +kernel
theorem dX6_takeHeader_5 : decode cX6_takeHeader 5 = .ok (.aload_n 0, 1) := by decide +kernel
theorem dX6_takeHeader_6 : decode cX6_takeHeader 6 = .ok (.aload_n 0, 1) := by decide +kernel
theorem dX6_takeHeader_7 : decode cX6_takeHeader 7 = .ok (.getfield 30, 3) := by decide +kernel
theorem dX6_takeHeader_10 : decode cX6_takeHeader 10 = .ok (.putfield 26, 3) := by decide +kernel
theorem dX6_takeHeader_13 : decode cX6_takeHeader 13 = .ok (.aload_n 0, 1) := by decide +kernel
theorem dX6_takeHeader_14 : decode cX6_takeHeader 14 = .ok (.aload_n 1, 1) := by decide +kernel
theorem dX6_takeHeader_15 : decode cX6_takeHeader 15 = .ok (.putfield 30, 3) := by decide +kernel
theorem dX6_takeHeader_18 : decode cX6_takeHeader 18 = .ok (.aload_n 0, 1) := by decide +kernel
theorem dX6_takeHeader_19 : decode cX6_takeHeader 19 = .ok (.iconst 1, 1) := by decide +kernel
theorem dX6_takeHeader_20 : decode cX6_takeHeader 20 = .ok (.putfield 96, 3) := by decide +kernel
theorem dX6_takeHeader_23 : decode cX6_takeHeader 23 = .ok (.aload_n 0, 1) := by decide +kernel
theorem dX6_takeHeader_24 : decode cX6_takeHeader 24 = .ok (.iconst 0, 1) := by decide +kernel
theorem dX6_takeHeader_25 : decode cX6_takeHeader 25 = .ok (.putfield 102, 3) := by decide +kernel
theorem dX6_takeHeader_28 : decode cX6_takeHeader 28 = .ok (.aload_n 0, 1) := by decide +kernel
theorem dX6_takeHeader_29 : decode cX6_takeHeader 29 = .ok (.iconst 0, 1) := by decide +kernel
theorem dX6_takeHeader_30 : decode cX6_takeHeader 30 = .ok (.putfield 131, 3) := by decide +kernel
theorem dX6_takeHeader_33 : decode cX6_takeHeader 33 = .ok (.return_, 1) := by decide +kernel
set_option maxRecDepth 100000 in
theorem ggX6_takeFrame_X2_paint : GoodIn wsX6_takeFrame wsX2_paint := goodIn_r _ [14, 15, 16, 17, 18, 19, 20, 21, 22, 23, 24, 25, 26, 27, 28, 29, 30, 31, 32, 33, 34, 35, 36, 37, 38, 39, 40, 41, 42, 43, 44, 45, 46, 13, 47, 48, 49, 50, 51, 52, 53, 54, 55, 56, 57, 58, 59, 60, 61, 62, 63, 64, 65, 66, 67, 68, 69, 70, 71, 72, 73, 74, 75, 76, 77, 78, 79, 80, 81, 82, 83, 84, 85, 86, 87, 88, 89, 90, 91, 92, 93, 94, 95, 96, 97, 98, 99, 100, 101, 102, 103, 104, 105, 106, 107, 108, 109, 110, 111, 112, 113, 114, 115, 116, 117, 118, 119, 120, 121, 122, 123, 124, 125, 126, 127, 128, 129, 130, 131, 132, 133, 134, 135, 136, 137, 138, 139, 140, 141, 142, 143, 144, 145, 146, 147, 148, 149, 150, 151, 152, 153, 154, 155, 156, 157, 158, 159, 160, 161, 162, 163, 164, 165, 166, 167, 168, 169, 196, 197, 198, 199, 200, 201, 202, 203, 204, 205, 206, 207, 208, 209, 210, 211, 212, 213, 214, 215, 216, 217, 218, 219, 220, 221, 222, 223] rfl (by decide +kernel)
set_option maxRecDepth 100000 in
theorem gX6_takeFrame_X2_paint : GoodIn wsX6_takeFrame (wsV RX6 177 RX2 yX2_paint wsX2_paint) := goodIn_app (goodIn_of _ (by decide +kernel)) ggX6_takeFrame_X2_paint
set_option maxRecDepth 100000 in
theorem ggX6_takeFrame_X0_makesGolden : GoodIn wsX6_takeFrame wsX0_makesGolden := goodIn_r _ [173, 174, 175, 207, 208, 209, 210, 211, 212, 213, 214, 215, 216, 217, 218] rfl (by decide +kernel)
set_option maxRecDepth 100000 in
theorem gX6_takeFrame_X0_makesGolden : GoodIn wsX6_takeFrame (wsV RX6 181 RX0 yX0_makesGolden wsX0_makesGolden) := goodIn_app (goodIn_of _ (by decide +kernel)) ggX6_takeFrame_X0_makesGolden
set_option maxRecDepth 100000 in
theorem ggX6_takeFrame_X3_copyFrom : GoodIn wsX6_takeFrame wsX3_copyFrom := goodIn_r _ [179, 31, 32, 113, 180, 181, 182, 183, 204, 205, 206] rfl (by decide +kernel)
set_option maxRecDepth 100000 in
theorem gX6_takeFrame_X3_copyFrom : GoodIn wsX6_takeFrame (wsV RX6 184 RX3 yX3_copyFrom wsX3_copyFrom) := goodIn_app (goodIn_of _ (by decide +kernel)) ggX6_takeFrame_X3_copyFrom
theorem dX6_takeFrame_0 : decode cX6_takeFrame 0 = .ok (.aload_n 0, 1) := by decide +kernel
theorem dX6_takeFrame_1 : decode cX6_takeFrame 1 = .ok (.getfield 36, 3) := by decide +kernel
theorem dX6_takeFrame_4 : decode cX6_takeFrame 4 = .ok (.astore_n 1, 1) := by decide +kernel
theorem dX6_takeFrame_5 : decode cX6_takeFrame 5 = .ok (.aload_n 0, 1) := by decide +kernel
theorem dX6_takeFrame_6 : decode cX6_takeFrame 6 = .ok (.aload_n 0, 1) := by decide +kernel
theorem dX6_takeFrame_7 : decode cX6_takeFrame 7 = .ok (.getfield 40, 3) := by decide +kernel
theorem dX6_takeFrame_10 : decode cX6_takeFrame 10 = .ok (.putfield 36, 3) := by decide +kernel
theorem dX6_takeFrame_13 : decode cX6_takeFrame 13 = .ok (.aload_n 0, 1) := by decide +kernel
theorem dX6_takeFrame_14 : decode cX6_takeFrame 14 = .ok (.aload_n 1, 1) := by decide +kernel
theorem dX6_takeFrame_15 : decode cX6_takeFrame 15 = .ok (.putfield 40, 3) := by decide +kernel
theorem dX6_takeFrame_18 : decode cX6_takeFrame 18 = .ok (.aload_n 0, 1) := by decide +kernel
theorem dX6_takeFrame_19 : decode cX6_takeFrame 19 = .ok (.getfield 19, 3) := by decide +kernel
theorem dX6_takeFrame_22 : decode cX6_takeFrame 22 = .ok (.aload_n 0, 1) := by decide +kernel
theorem dX6_takeFrame_23 : decode cX6_takeFrame 23 = .ok (.getfield 36, 3) := by decide +kernel
theorem dX6_takeFrame_26 : decode cX6_takeFrame 26 = .ok (.aload_n 0, 1) := by decide +kernel
theorem dX6_takeFrame_27 : decode cX6_takeFrame 27 = .ok (.getfield 26, 3) := by decide +kernel
theorem dX6_takeFrame_30 : decode cX6_takeFrame 30 = .ok (.aload_n 0, 1) := by decide +kernel
theorem dX6_takeFrame_31 : decode cX6_takeFrame 31 = .ok (.getfield 46, 3) := by decide +kernel
theorem dX6_takeFrame_34 : decode cX6_takeFrame 34 = .ok (.aload_n 0, 1) := by decide +kernel
theorem dX6_takeFrame_35 : decode cX6_takeFrame 35 = .ok (.getfield 53, 3) := by decide +kernel
theorem dX6_takeFrame_38 : decode cX6_takeFrame 38 = .ok (.aload_n 0, 1) := by decide +kernel
theorem dX6_takeFrame_39 : decode cX6_takeFrame 39 = .ok (.getfield 50, 3) := by decide +kernel
theorem dX6_takeFrame_42 : decode cX6_takeFrame 42 = .ok (.invokevirtual 177, 3) := by decide +kernel
theorem dX6_takeFrame_45 : decode cX6_takeFrame 45 = .ok (.aload_n 0, 1) := by decide +kernel
theorem dX6_takeFrame_46 : decode cX6_takeFrame 46 = .ok (.getfield 46, 3) := by decide +kernel
theorem dX6_takeFrame_49 : decode cX6_takeFrame 49 = .ok (.astore_n 2, 1) := by decide +kernel
theorem dX6_takeFrame_50 : decode cX6_takeFrame 50 = .ok (.aload_n 0, 1) := by decide +kernel
theorem dX6_takeFrame_51 : decode cX6_takeFrame 51 = .ok (.aload_n 0, 1) := by decide +kernel
theorem dX6_takeFrame_52 : decode cX6_takeFrame 52 = .ok (.getfield 50, 3) := by decide +kernel
theorem dX6_takeFrame_55 : decode cX6_takeFrame 55 = .ok (.putfield 46, 3) := by decide +kernel
theorem dX6_takeFrame_58 : decode cX6_takeFrame 58 = .ok (.aload_n 0, 1) := by decide +kernel
theorem dX6_takeFrame_59 : decode cX6_takeFrame 59 = .ok (.aload_n 2, 1) := by decide +kernel
theorem dX6_takeFrame_60 : decode cX6_takeFrame 60 = .ok (.putfield 50, 3) := by decide +kernel
theorem dX6_takeFrame_63 : decode cX6_takeFrame 63 = .ok (.aload_n 0, 1) := by decide +kernel
theorem dX6_takeFrame_64 : decode cX6_takeFrame 64 = .ok (.getfield 36, 3) := by decide +kernel
theorem dX6_takeFrame_67 : decode cX6_takeFrame 67 = .ok (.invokevirtual 181, 3) := by decide +kernel
theorem dX6_takeFrame_70 : decode cX6_takeFrame 70 = .ok (.ifCond .eq 14, 3) := by decide +kernel
theorem dX6_takeFrame_73 : decode cX6_takeFrame 73 = .ok (.aload_n 0, 1) := by decide +kernel
theorem dX6_takeFrame_74 : decode cX6_takeFrame 74 = .ok (.getfield 53, 3) := by decide +kernel
theorem dX6_takeFrame_77 : decode cX6_takeFrame 77 = .ok (.aload_n 0, 1) := by decide +kernel
theorem dX6_takeFrame_78 : decode cX6_takeFrame 78 = .ok (.getfield 46, 3) := by decide +kernel
theorem dX6_takeFrame_81 : decode cX6_takeFrame 81 = .ok (.invokevirtual 184, 3) := by decide +kernel
theorem dX6_takeFrame_84 : decode cX6_takeFrame 84 = .ok (.aload_n 0, 1) := by decide +kernel
theorem dX6_takeFrame_85 : decode cX6_takeFrame 85 = .ok (.iconst 1, 1) := by decide +kernel
theorem dX6_takeFrame_86 : decode cX6_takeFrame 86 = .ok (.putfield 102, 3) := by decide +kernel
theorem dX6_takeFrame_89 : decode cX6_takeFrame 89 = .ok (.aload_n 0, 1) := by decide +kernel
theorem dX6_takeFrame_90 : decode cX6_takeFrame 90 = .ok (.dup, 1) := by decide +kernel
theorem dX6_takeFrame_91 : decode cX6_takeFrame 91 = .ok (.getfield 131, 3) := by decide +kernel
theorem dX6_takeFrame_94 : decode cX6_takeFrame 94 = .ok (.iconst 1, 1) := by decide +kernel
theorem dX6_takeFrame_95 : decode cX6_takeFrame 95 = .ok (.iadd, 1) := by decide +kernel
theorem dX6_takeFrame_96 : decode cX6_takeFrame 96 = .ok (.putfield 131, 3) := by decide +kernel
theorem dX6_takeFrame_99 : decode cX6_takeFrame 99 = .ok (.return_, 1) := by decide +kernel
theorem dX6_bring_0 : decode cX6_bring 0 = .ok (.iload_n 1, 1) := by decide +kernel
theorem dX6_bring_1 : decode cX6_bring 1 = .ok (.iload_n 2, 1) := by decide +kernel
theorem dX6_bring_2 : decode cX6_bring 2 = .ok (.iload_n 0, 1) := by decide +kernel
theorem dX6_bring_3 : decode cX6_bring 3 = .ok (.invokestatic 188, 3) := by decide +kernel
theorem dX6_bring_6 : decode cX6_bring 6 = .ok (.invokestatic 193, 3) := by decide +kernel
theorem dX6_bring_9 : decode cX6_bring 9 = .ok (.ireturn, 1) := by decide +kernel
theorem dX7_init_0 : decode cX7_init 0 = .ok (.aload_n 0, 1) := by decide +kernel
theorem dX7_init_1 : decode cX7_init 1 = .ok (.invokespecial 1, 3) := by decide +kernel
theorem dX7_init_4 : decode cX7_init 4 = .ok (.aload_n 0, 1) := by decide +kernel
theorem dX7_init_5 : decode cX7_init 5 = .ok (.sipush 6000, 3) := by decide +kernel
theorem dX7_init_8 : decode cX7_init 8 = .ok (.newarray .byte, 2) := by decide +kernel
theorem dX7_init_10 : decode cX7_init 10 = .ok (.putfield 7, 3) := by decide +kernel
theorem dX7_init_13 : decode cX7_init 13 = .ok (.aload_n 0, 1) := by decide +kernel
theorem dX7_init_14 : decode cX7_init 14 = .ok (.bipush 8, 2) := by decide +kernel
theorem dX7_init_16 : decode cX7_init 16 = .ok (.newarray .int, 2) := by decide +kernel
theorem dX7_init_18 : decode cX7_init 18 = .ok (.putfield 13, 3) := by decide +kernel
theorem dX7_init_21 : decode cX7_init 21 = .ok (.aload_n 0, 1) := by decide +kernel
theorem dX7_init_22 : decode cX7_init 22 = .ok (.bipush 16, 2) := by decide +kernel
theorem dX7_init_24 : decode cX7_init 24 = .ok (.newarray .int, 2) := by decide +kernel
theorem dX7_init_26 : decode cX7_init 26 = .ok (.putfield 17, 3) := by decide +kernel
theorem dX7_init_29 : decode cX7_init 29 = .ok (.aload_n 0, 1) := by decide +kernel
theorem dX7_init_30 : decode cX7_init 30 = .ok (.bipush 8, 2) := by decide +kernel
theorem dX7_init_32 : decode cX7_init 32 = .ok (.newarray .int, 2) := by decide +kernel
theorem dX7_init_34 : decode cX7_init 34 = .ok (.putfield 20, 3) := by decide +kernel
theorem dX7_init_37 : decode cX7_init 37 = .ok (.aload_n 0, 1) := by decide +kernel
theorem dX7_init_38 : decode cX7_init 38 = .ok (.bipush 16, 2) := by decide +kernel
theorem dX7_init_40 : decode cX7_init 40 = .ok (.newarray .int, 2) := by decide +kernel
theorem dX7_init_42 : decode cX7_init 42 = .ok (.putfield 23, 3) := by decide +kernel
theorem dX7_init_45 : decode cX7_init 45 = .ok (.aload_n 0, 1) := by decide +kernel
theorem dX7_init_46 : decode cX7_init 46 = .ok (.sipush 1024, 3) := by decide +kernel
theorem dX7_init_49 : decode cX7_init 49 = .ok (.newarray .int, 2) := by decide +kernel
theorem dX7_init_51 : decode cX7_init 51 = .ok (.putfield 26, 3) := by decide +kernel
theorem dX7_init_54 : decode cX7_init 54 = .ok (.aload_n 0, 1) := by decide +kernel
theorem dX7_init_55 : decode cX7_init 55 = .ok (.iconst 4, 1) := by decide +kernel
theorem dX7_init_56 : decode cX7_init 56 = .ok (.newarray .int, 2) := by decide +kernel
theorem dX7_init_58 : decode cX7_init 58 = .ok (.putfield 29, 3) := by decide +kernel
theorem dX7_init_61 : decode cX7_init 61 = .ok (.aload_n 0, 1) := by decide +kernel
theorem dX7_init_62 : decode cX7_init 62 = .ok (.iconst 4, 1) := by decide +kernel
theorem dX7_init_63 : decode cX7_init 63 = .ok (.newarray .int, 2) := by decide +kernel
theorem dX7_init_65 : decode cX7_init 65 = .ok (.putfield 32, 3) := by decide +kernel
theorem dX7_init_68 : decode cX7_init 68 = .ok (.aload_n 0, 1) := by decide +kernel
theorem dX7_init_69 : decode cX7_init 69 = .ok (.bipush 16, 2) := by decide +kernel
theorem dX7_init_71 : decode cX7_init 71 = .ok (.newarray .int, 2) := by decide +kernel
theorem dX7_init_73 : decode cX7_init 73 = .ok (.putfield 35, 3) := by decide +kernel
theorem dX7_init_76 : decode cX7_init 76 = .ok (.aload_n 0, 1) := by decide +kernel
theorem dX7_init_77 : decode cX7_init 77 = .ok (.sipush 2304, 3) := by decide +kernel
theorem dX7_init_80 : decode cX7_init 80 = .ok (.newarray .int, 2) := by decide +kernel
theorem dX7_init_82 : decode cX7_init 82 = .ok (.putfield 38, 3) := by decide +kernel
theorem dX7_init_85 : decode cX7_init 85 = .ok (.aload_n 0, 1) := by decide +kernel
theorem dX7_init_86 : decode cX7_init 86 = .ok (.sipush 2304, 3) := by decide +kernel
theorem dX7_init_89 : decode cX7_init 89 = .ok (.newarray .int, 2) := by decide +kernel
theorem dX7_init_91 : decode cX7_init 91 = .ok (.putfield 41, 3) := by decide +kernel
theorem dX7_init_94 : decode cX7_init 94 = .ok (.aload_n 0, 1) := by decide +kernel
theorem dX7_init_95 : decode cX7_init 95 = .ok (.sipush 2304, 3) := by decide +kernel
theorem dX7_init_98 : decode cX7_init 98 = .ok (.newarray .int, 2) := by decide +kernel
theorem dX7_init_100 : decode cX7_init 100 = .ok (.putfield 44, 3) := by decide +kernel
theorem dX7_init_103 : decode cX7_init 103 = .ok (.aload_n 0, 1) := by decide +kernel
theorem dX7_init_104 : decode cX7_init 104 = .ok (.bipush 36, 2) := by decide +kernel
theorem dX7_init_106 : decode cX7_init 106 = .ok (.newarray .int, 2) := by decide +kernel
theorem dX7_init_108 : decode cX7_init 108 = .ok (.putfield 47, 3) := by decide +kernel
theorem dX7_init_111 : decode cX7_init 111 = .ok (.aload_n 0, 1) := by decide +kernel
theorem dX7_init_112 : decode cX7_init 112 = .ok (.bipush 36, 2) := by decide +kernel
theorem dX7_init_114 : decode cX7_init 114 = .ok (.newarray .int, 2) := by decide +kernel
theorem dX7_init_116 : decode cX7_init 116 = .ok (.putfield 50, 3) := by decide +kernel
theorem dX7_init_119 : decode cX7_init 119 = .ok (.aload_n 0, 1) := by decide +kernel
theorem dX7_init_120 : decode cX7_init 120 = .ok (.bipush 36, 2) := by decide +kernel
theorem dX7_init_122 : decode cX7_init 122 = .ok (.newarray .int, 2) := by decide +kernel
theorem dX7_init_124 : decode cX7_init 124 = .ok (.putfield 53, 3) := by decide +kernel
theorem dX7_init_127 : decode cX7_init 127 = .ok (.aload_n 0, 1) := by decide +kernel
theorem dX7_init_128 : decode cX7_init 128 = .ok (.bipush 36, 2) := by decide +kernel
theorem dX7_init_130 : decode cX7_init 130 = .ok (.newarray .int, 2) := by decide +kernel
theorem dX7_init_132 : decode cX7_init 132 = .ok (.putfield 56, 3) := by decide +kernel
theorem dX7_init_135 : decode cX7_init 135 = .ok (.aload_n 0, 1) := by decide +kernel
theorem dX7_init_136 : decode cX7_init 136 = .ok (.bipush 36, 2) := by decide +kernel
theorem dX7_init_138 : decode cX7_init 138 = .ok (.newarray .int, 2) := by decide +kernel
theorem dX7_init_140 : decode cX7_init 140 = .ok (.putfield 59, 3) := by decide +kernel
theorem dX7_init_143 : decode cX7_init 143 = .ok (.aload_n 0, 1) := by decide +kernel
theorem dX7_init_144 : decode cX7_init 144 = .ok (.bipush 36, 2) := by decide +kernel
theorem dX7_init_146 : decode cX7_init 146 = .ok (.newarray .int, 2) := by decide +kernel
theorem dX7_init_148 : decode cX7_init 148 = .ok (.putfield 62, 3) := by decide +kernel
theorem dX7_init_151 : decode cX7_init 151 = .ok (.aload_n 0, 1) := by decide +kernel
theorem dX7_init_152 : decode cX7_init 152 = .ok (.bipush 36, 2) := by decide +kernel
theorem dX7_init_154 : decode cX7_init 154 = .ok (.newarray .int, 2) := by decide +kernel
theorem dX7_init_156 : decode cX7_init 156 = .ok (.putfield 65, 3) := by decide +kernel
theorem dX7_init_159 : decode cX7_init 159 = .ok (.aload_n 0, 1) := by decide +kernel
theorem dX7_init_160 : decode cX7_init 160 = .ok (.bipush 36, 2) := by decide +kernel
theorem dX7_init_162 : decode cX7_init 162 = .ok (.newarray .int, 2) := by decide +kernel
theorem dX7_init_164 : decode cX7_init 164 = .ok (.putfield 68, 3) := by decide +kernel
theorem dX7_init_167 : decode cX7_init 167 = .ok (.aload_n 0, 1) := by decide +kernel
theorem dX7_init_168 : decode cX7_init 168 = .ok (.bipush 36, 2) := by decide +kernel
theorem dX7_init_170 : decode cX7_init 170 = .ok (.newarray .int, 2) := by decide +kernel
theorem dX7_init_172 : decode cX7_init 172 = .ok (.putfield 71, 3) := by decide +kernel
theorem dX7_init_175 : decode cX7_init 175 = .ok (.aload_n 0, 1) := by decide +kernel
theorem dX7_init_176 : decode cX7_init 176 = .ok (.sipush 2304, 3) := by decide +kernel
theorem dX7_init_179 : decode cX7_init 179 = .ok (.newarray .int, 2) := by decide +kernel
theorem dX7_init_181 : decode cX7_init 181 = .ok (.putfield 74, 3) := by decide +kernel
theorem dX7_init_184 : decode cX7_init 184 = .ok (.aload_n 0, 1) := by decide +kernel
theorem dX7_init_185 : decode cX7_init 185 = .ok (.iconst 3, 1) := by decide +kernel
theorem dX7_init_186 : decode cX7_init 186 = .ok (.newarray .int, 2) := by decide +kernel
theorem dX7_init_188 : decode cX7_init 188 = .ok (.putfield 77, 3) := by decide +kernel
theorem dX7_init_191 : decode cX7_init 191 = .ok (.aload_n 0, 1) := by decide +kernel
theorem dX7_init_192 : decode cX7_init 192 = .ok (.bipush 64, 2) := by decide +kernel
theorem dX7_init_194 : decode cX7_init 194 = .ok (.newarray .long, 2) := by decide +kernel
theorem dX7_init_196 : decode cX7_init 196 = .ok (.putfield 80, 3) := by decide +kernel
theorem dX7_init_199 : decode cX7_init 199 = .ok (.aload_n 0, 1) := by decide +kernel
theorem dX7_init_200 : decode cX7_init 200 = .ok (.bipush 64, 2) := by decide +kernel
theorem dX7_init_202 : decode cX7_init 202 = .ok (.newarray .long, 2) := by decide +kernel
theorem dX7_init_204 : decode cX7_init 204 = .ok (.putfield 84, 3) := by decide +kernel
theorem dX7_init_207 : decode cX7_init 207 = .ok (.aload_n 0, 1) := by decide +kernel
theorem dX7_init_208 : decode cX7_init 208 = .ok (.bipush 64, 2) := by decide +kernel
theorem dX7_init_210 : decode cX7_init 210 = .ok (.newarray .int, 2) := by decide +kernel
theorem dX7_init_212 : decode cX7_init 212 = .ok (.putfield 87, 3) := by decide +kernel
theorem dX7_init_215 : decode cX7_init 215 = .ok (.aload_n 0, 1) := by decide +kernel
theorem dX7_init_216 : decode cX7_init 216 = .ok (.bipush 8, 2) := by decide +kernel
theorem dX7_init_218 : decode cX7_init 218 = .ok (.newarray .int, 2) := by decide +kernel
theorem dX7_init_220 : decode cX7_init 220 = .ok (.dup, 1) := by decide +kernel
theorem dX7_init_221 : decode cX7_init 221 = .ok (.iconst 0, 1) := by decide +kernel
theorem dX7_init_222 : decode cX7_init 222 = .ok (.iconst 0, 1) := by decide +kernel
theorem dX7_init_223 : decode cX7_init 223 = .ok (.iastore, 1) := by decide +kernel
theorem dX7_init_224 : decode cX7_init 224 = .ok (.dup, 1) := by decide +kernel
theorem dX7_init_225 : decode cX7_init 225 = .ok (.iconst 1, 1) := by decide +kernel
theorem dX7_init_226 : decode cX7_init 226 = .ok (.sipush 16069, 3) := by decide +kernel
theorem dX7_init_229 : decode cX7_init 229 = .ok (.iastore, 1) := by decide +kernel
theorem dX7_init_230 : decode cX7_init 230 = .ok (.dup, 1) := by decide +kernel
theorem dX7_init_231 : decode cX7_init 231 = .ok (.iconst 2, 1) := by decide +kernel
theorem dX7_init_232 : decode cX7_init 232 = .ok (.sipush 15137, 3) := by decide +kernel
theorem dX7_init_235 : decode cX7_init 235 = .ok (.iastore, 1) := by decide +kernel
theorem dX7_init_236 : decode cX7_init 236 = .ok (.dup, 1) := by decide +kernel
theorem dX7_init_237 : decode cX7_init 237 = .ok (.iconst 3, 1) := by decide +kernel
theorem dX7_init_238 : decode cX7_init 238 = .ok (.sipush 13623, 3) := by decide +kernel
theorem dX7_init_241 : decode cX7_init 241 = .ok (.iastore, 1) := by decide +kernel
theorem dX7_init_242 : decode cX7_init 242 = .ok (.dup, 1) := by decide +kernel
theorem dX7_init_243 : decode cX7_init 243 = .ok (.iconst 4, 1) := by decide +kernel
theorem dX7_init_244 : decode cX7_init 244 = .ok (.sipush 11585, 3) := by decide +kernel
theorem dX7_init_247 : decode cX7_init 247 = .ok (.iastore, 1) := by decide +kernel
theorem dX7_init_248 : decode cX7_init 248 = .ok (.dup, 1) := by decide +kernel
theorem dX7_init_249 : decode cX7_init 249 = .ok (.iconst 5, 1) := by decide +kernel
theorem dX7_init_250 : decode cX7_init 250 = .ok (.sipush 9102, 3) := by decide +kernel
theorem dX7_init_253 : decode cX7_init 253 = .ok (.iastore, 1) := by decide +kernel
theorem dX7_init_254 : decode cX7_init 254 = .ok (.dup, 1) := by decide +kernel
theorem dX7_init_255 : decode cX7_init 255 = .ok (.bipush 6, 2) := by decide +kernel
theorem dX7_init_257 : decode cX7_init 257 = .ok (.sipush 6270, 3) := by decide +kernel
theorem dX7_init_260 : decode cX7_init 260 = .ok (.iastore, 1) := by decide +kernel
theorem dX7_init_261 : decode cX7_init 261 = .ok (.dup, 1) := by decide +kernel
theorem dX7_init_262 : decode cX7_init 262 = .ok (.bipush 7, 2) := by decide +kernel
theorem dX7_init_264 : decode cX7_init 264 = .ok (.sipush 3196, 3) := by decide +kernel
theorem dX7_init_267 : decode cX7_init 267 = .ok (.iastore, 1) := by decide +kernel
theorem dX7_init_268 : decode cX7_init 268 = .ok (.putfield 90, 3) := by decide +kernel
theorem dX7_init_271 : decode cX7_init 271 = .ok (.aload_n 0, 1) := by decide +kernel
theorem dX7_init_272 : decode cX7_init 272 = .ok (.bipush 16, 2) := by decide +kernel
theorem dX7_init_274 : decode cX7_init 274 = .ok (.newarray .int, 2) := by decide +kernel
theorem dX7_init_276 : decode cX7_init 276 = .ok (.dup, 1) := by decide +kernel
theorem dX7_init_277 : decode cX7_init 277 = .ok (.iconst 0, 1) := by decide +kernel
theorem dX7_init_278 : decode cX7_init 278 = .ok (.iconst 0, 1) := by decide +kernel
theorem dX7_init_279 : decode cX7_init 279 = .ok (.iastore, 1) := by decide +kernel
theorem dX7_init_280 : decode cX7_init 280 = .ok (.dup, 1) := by decide +kernel
theorem dX7_init_281 : decode cX7_init 281 = .ok (.iconst 1, 1) := by decide +kernel
theorem dX7_init_282 : decode cX7_init 282 = .ok (.iconst 1, 1) := by decide +kernel
theorem dX7_init_283 : decode cX7_init 283 = .ok (.iastore, 1) := by decide +kernel
theorem dX7_init_284 : decode cX7_init 284 = .ok (.dup, 1) := by decide +kernel
theorem dX7_init_285 : decode cX7_init 285 = .ok (.iconst 2, 1) := by decide +kernel
theorem dX7_init_286 : decode cX7_init 286 = .ok (.iconst 1, 1) := by decide +kernel
theorem dX7_init_287 : decode cX7_init 287 = .ok (.iastore, 1) := by decide +kernel
theorem dX7_init_288 : decode cX7_init 288 = .ok (.dup, 1) := by decide +kernel
theorem dX7_init_289 : decode cX7_init 289 = .ok (.iconst 3, 1) := by decide +kernel
theorem dX7_init_290 : decode cX7_init 290 = .ok (.iconst 0, 1) := by decide +kernel
theorem dX7_init_291 : decode cX7_init 291 = .ok (.iastore, 1) := by decide +kernel
theorem dX7_init_292 : decode cX7_init 292 = .ok (.dup, 1) := by decide +kernel
theorem dX7_init_293 : decode cX7_init 293 = .ok (.iconst 4, 1) := by decide +kernel
theorem dX7_init_294 : decode cX7_init 294 = .ok (.iconst 0, 1) := by decide +kernel
theorem dX7_init_295 : decode cX7_init 295 = .ok (.iastore, 1) := by decide +kernel
theorem dX7_init_296 : decode cX7_init 296 = .ok (.dup, 1) := by decide +kernel
theorem dX7_init_297 : decode cX7_init 297 = .ok (.iconst 5, 1) := by decide +kernel
theorem dX7_init_298 : decode cX7_init 298 = .ok (.iconst 0, 1) := by decide +kernel
theorem dX7_init_299 : decode cX7_init 299 = .ok (.iastore, 1) := by decide +kernel
theorem dX7_init_300 : decode cX7_init 300 = .ok (.dup, 1) := by decide +kernel
theorem dX7_init_301 : decode cX7_init 301 = .ok (.bipush 6, 2) := by decide +kernel
theorem dX7_init_303 : decode cX7_init 303 = .ok (.iconst 1, 1) := by decide +kernel
theorem dX7_init_304 : decode cX7_init 304 = .ok (.iastore, 1) := by decide +kernel
theorem dX7_init_305 : decode cX7_init 305 = .ok (.dup, 1) := by decide +kernel
theorem dX7_init_306 : decode cX7_init 306 = .ok (.bipush 7, 2) := by decide +kernel
theorem dX7_init_308 : decode cX7_init 308 = .ok (.iconst 1, 1) := by decide +kernel
theorem dX7_init_309 : decode cX7_init 309 = .ok (.iastore, 1) := by decide +kernel
theorem dX7_init_310 : decode cX7_init 310 = .ok (.dup, 1) := by decide +kernel
theorem dX7_init_311 : decode cX7_init 311 = .ok (.bipush 8, 2) := by decide +kernel
theorem dX7_init_313 : decode cX7_init 313 = .ok (.iconst 2, 1) := by decide +kernel
theorem dX7_init_314 : decode cX7_init 314 = .ok (.iastore, 1) := by decide +kernel
theorem dX7_init_315 : decode cX7_init 315 = .ok (.dup, 1) := by decide +kernel
theorem dX7_init_316 : decode cX7_init 316 = .ok (.bipush 9, 2) := by decide +kernel
theorem dX7_init_318 : decode cX7_init 318 = .ok (.iconst 2, 1) := by decide +kernel
theorem dX7_init_319 : decode cX7_init 319 = .ok (.iastore, 1) := by decide +kernel
theorem dX7_init_320 : decode cX7_init 320 = .ok (.dup, 1) := by decide +kernel
theorem dX7_init_321 : decode cX7_init 321 = .ok (.bipush 10, 2) := by decide +kernel
theorem dX7_init_323 : decode cX7_init 323 = .ok (.iconst 3, 1) := by decide +kernel
theorem dX7_init_324 : decode cX7_init 324 = .ok (.iastore, 1) := by decide +kernel
theorem dX7_init_325 : decode cX7_init 325 = .ok (.dup, 1) := by decide +kernel
theorem dX7_init_326 : decode cX7_init 326 = .ok (.bipush 11, 2) := by decide +kernel
theorem dX7_init_328 : decode cX7_init 328 = .ok (.iconst 3, 1) := by decide +kernel
theorem dX7_init_329 : decode cX7_init 329 = .ok (.iastore, 1) := by decide +kernel
theorem dX7_init_330 : decode cX7_init 330 = .ok (.dup, 1) := by decide +kernel
theorem dX7_init_331 : decode cX7_init 331 = .ok (.bipush 12, 2) := by decide +kernel
theorem dX7_init_333 : decode cX7_init 333 = .ok (.iconst 3, 1) := by decide +kernel
theorem dX7_init_334 : decode cX7_init 334 = .ok (.iastore, 1) := by decide +kernel
theorem dX7_init_335 : decode cX7_init 335 = .ok (.dup, 1) := by decide +kernel
theorem dX7_init_336 : decode cX7_init 336 = .ok (.bipush 13, 2) := by decide +kernel
theorem dX7_init_338 : decode cX7_init 338 = .ok (.iconst 2, 1) := by decide +kernel
theorem dX7_init_339 : decode cX7_init 339 = .ok (.iastore, 1) := by decide +kernel
theorem dX7_init_340 : decode cX7_init 340 = .ok (.dup, 1) := by decide +kernel
theorem dX7_init_341 : decode cX7_init 341 = .ok (.bipush 14, 2) := by decide +kernel
theorem dX7_init_343 : decode cX7_init 343 = .ok (.iconst 2, 1) := by decide +kernel
theorem dX7_init_344 : decode cX7_init 344 = .ok (.iastore, 1) := by decide +kernel
theorem dX7_init_345 : decode cX7_init 345 = .ok (.dup, 1) := by decide +kernel
theorem dX7_init_346 : decode cX7_init 346 = .ok (.bipush 15, 2) := by decide +kernel
theorem dX7_init_348 : decode cX7_init 348 = .ok (.iconst 3, 1) := by decide +kernel
theorem dX7_init_349 : decode cX7_init 349 = .ok (.iastore, 1) := by decide +kernel
theorem dX7_init_350 : decode cX7_init 350 = .ok (.putfield 93, 3) := by decide +kernel
theorem dX7_init_353 : decode cX7_init 353 = .ok (.aload_n 0, 1) := by decide +kernel
theorem dX7_init_354 : decode cX7_init 354 = .ok (.bipush 16, 2) := by decide +kernel
theorem dX7_init_356 : decode cX7_init 356 = .ok (.newarray .int, 2) := by decide +kernel
theorem dX7_init_358 : decode cX7_init 358 = .ok (.dup, 1) := by decide +kernel
theorem dX7_init_359 : decode cX7_init 359 = .ok (.iconst 0, 1) := by decide +kernel
theorem dX7_init_360 : decode cX7_init 360 = .ok (.iconst 0, 1) := by decide +kernel
theorem dX7_init_361 : decode cX7_init 361 = .ok (.iastore, 1) := by decide +kernel
theorem dX7_init_362 : decode cX7_init 362 = .ok (.dup, 1) := by decide +kernel
theorem dX7_init_363 : decode cX7_init 363 = .ok (.iconst 1, 1) := by decide +kernel
theorem dX7_init_364 : decode cX7_init 364 = .ok (.iconst 0, 1) := by decide +kernel
theorem dX7_init_365 : decode cX7_init 365 = .ok (.iastore, 1) := by decide +kernel
theorem dX7_init_366 : decode cX7_init 366 = .ok (.dup, 1) := by decide +kernel
theorem dX7_init_367 : decode cX7_init 367 = .ok (.iconst 2, 1) := by decide +kernel
theorem dX7_init_368 : decode cX7_init 368 = .ok (.iconst 1, 1) := by decide +kernel
theorem dX7_init_369 : decode cX7_init 369 = .ok (.iastore, 1) := by decide +kernel
theorem dX7_init_370 : decode cX7_init 370 = .ok (.dup, 1) := by decide +kernel
theorem dX7_init_371 : decode cX7_init 371 = .ok (.iconst 3, 1) := by decide +kernel
theorem dX7_init_372 : decode cX7_init 372 = .ok (.iconst 1, 1) := by decide +kernel
theorem dX7_init_373 : decode cX7_init 373 = .ok (.iastore, 1) := by decide +kernel
theorem dX7_init_374 : decode cX7_init 374 = .ok (.dup, 1) := by decide +kernel
theorem dX7_init_375 : decode cX7_init 375 = .ok (.iconst 4, 1) := by decide +kernel
theorem dX7_init_376 : decode cX7_init 376 = .ok (.iconst 2, 1) := by decide +kernel
theorem dX7_init_377 : decode cX7_init 377 = .ok (.iastore, 1) := by decide +kernel
theorem dX7_init_378 : decode cX7_init 378 = .ok (.dup, 1) := by decide +kernel
theorem dX7_init_379 : decode cX7_init 379 = .ok (.iconst 5, 1) := by decide +kernel
theorem dX7_init_380 : decode cX7_init 380 = .ok (.iconst 3, 1) := by decide +kernel
theorem dX7_init_381 : decode cX7_init 381 = .ok (.iastore, 1) := by decide +kernel
theorem dX7_init_382 : decode cX7_init 382 = .ok (.dup, 1) := by decide +kernel
theorem dX7_init_383 : decode cX7_init 383 = .ok (.bipush 6, 2) := by decide +kernel
theorem dX7_init_385 : decode cX7_init 385 = .ok (.iconst 3, 1) := by decide +kernel
theorem dX7_init_386 : decode cX7_init 386 = .ok (.iastore, 1) := by decide +kernel
theorem dX7_init_387 : decode cX7_init 387 = .ok (.dup, 1) := by decide +kernel
theorem dX7_init_388 : decode cX7_init 388 = .ok (.bipush 7, 2) := by decide +kernel
theorem dX7_init_390 : decode cX7_init 390 = .ok (.iconst 2, 1) := by decide +kernel
theorem dX7_init_391 : decode cX7_init 391 = .ok (.iastore, 1) := by decide +kernel
theorem dX7_init_392 : decode cX7_init 392 = .ok (.dup, 1) := by decide +kernel
theorem dX7_init_393 : decode cX7_init 393 = .ok (.bipush 8, 2) := by decide +kernel
theorem dX7_init_395 : decode cX7_init 395 = .ok (.iconst 2, 1) := by decide +kernel
theorem dX7_init_396 : decode cX7_init 396 = .ok (.iastore, 1) := by decide +kernel
theorem dX7_init_397 : decode cX7_init 397 = .ok (.dup, 1) := by decide +kernel
theorem dX7_init_398 : decode cX7_init 398 = .ok (.bipush 9, 2) := by decide +kernel
theorem dX7_init_400 : decode cX7_init 400 = .ok (.iconst 3, 1) := by decide +kernel
theorem dX7_init_401 : decode cX7_init 401 = .ok (.iastore, 1) := by decide +kernel
theorem dX7_init_402 : decode cX7_init 402 = .ok (.dup, 1) := by decide +kernel
theorem dX7_init_403 : decode cX7_init 403 = .ok (.bipush 10, 2) := by decide +kernel
theorem dX7_init_405 : decode cX7_init 405 = .ok (.iconst 3, 1) := by decide +kernel
theorem dX7_init_406 : decode cX7_init 406 = .ok (.iastore, 1) := by decide +kernel
theorem dX7_init_407 : decode cX7_init 407 = .ok (.dup, 1) := by decide +kernel
theorem dX7_init_408 : decode cX7_init 408 = .ok (.bipush 11, 2) := by decide +kernel
theorem dX7_init_410 : decode cX7_init 410 = .ok (.iconst 2, 1) := by decide +kernel
theorem dX7_init_411 : decode cX7_init 411 = .ok (.iastore, 1) := by decide +kernel
theorem dX7_init_412 : decode cX7_init 412 = .ok (.dup, 1) := by decide +kernel
theorem dX7_init_413 : decode cX7_init 413 = .ok (.bipush 12, 2) := by decide +kernel
theorem dX7_init_415 : decode cX7_init 415 = .ok (.iconst 1, 1) := by decide +kernel
theorem dX7_init_416 : decode cX7_init 416 = .ok (.iastore, 1) := by decide +kernel
theorem dX7_init_417 : decode cX7_init 417 = .ok (.dup, 1) := by decide +kernel
theorem dX7_init_418 : decode cX7_init 418 = .ok (.bipush 13, 2) := by decide +kernel
theorem dX7_init_420 : decode cX7_init 420 = .ok (.iconst 1, 1) := by decide +kernel
theorem dX7_init_421 : decode cX7_init 421 = .ok (.iastore, 1) := by decide +kernel
theorem dX7_init_422 : decode cX7_init 422 = .ok (.dup, 1) := by decide +kernel
theorem dX7_init_423 : decode cX7_init 423 = .ok (.bipush 14, 2) := by decide +kernel
theorem dX7_init_425 : decode cX7_init 425 = .ok (.iconst 0, 1) := by decide +kernel
theorem dX7_init_426 : decode cX7_init 426 = .ok (.iastore, 1) := by decide +kernel
theorem dX7_init_427 : decode cX7_init 427 = .ok (.dup, 1) := by decide +kernel
theorem dX7_init_428 : decode cX7_init 428 = .ok (.bipush 15, 2) := by decide +kernel
theorem dX7_init_430 : decode cX7_init 430 = .ok (.iconst 0, 1) := by decide +kernel
theorem dX7_init_431 : decode cX7_init 431 = .ok (.iastore, 1) := by decide +kernel
theorem dX7_init_432 : decode cX7_init 432 = .ok (.putfield 96, 3) := by decide +kernel
theorem dX7_init_435 : decode cX7_init 435 = .ok (.aload_n 0, 1) := by decide +kernel
theorem dX7_init_436 : decode cX7_init 436 = .ok (.iconst 0, 1) := by decide +kernel
theorem dX7_init_437 : decode cX7_init 437 = .ok (.putfield 99, 3) := by decide +kernel
theorem dX7_init_440 : decode cX7_init 440 = .ok (.return_, 1) := by decide +kernel
theorem dX7_thrown_0 : decode cX7_thrown 0 = .ok (.aload_n 0, 1) := by decide +kernel
theorem dX7_thrown_1 : decode cX7_thrown 1 = .ok (.getfield 103, 3) := by decide +kernel
theorem dX7_thrown_4 : decode cX7_thrown 4 = .ok (.ireturn, 1) := by decide +kernel
theorem dX7_refused_0 : decode cX7_refused 0 = .ok (.aload_n 0, 1) := by decide +kernel
theorem dX7_refused_1 : decode cX7_refused 1 = .ok (.iload_n 1, 1) := by decide +kernel
theorem dX7_refused_2 : decode cX7_refused 2 = .ok (.ifCond .eq 7, 3) := by decide +kernel
theorem dX7_refused_5 : decode cX7_refused 5 = .ok (.iconst 1, 1) := by decide +kernel
theorem dX7_refused_6 : decode cX7_refused 6 = .ok (.goto 20, 3) := by decide +kernel
theorem dX7_refused_9 : decode cX7_refused 9 = .ok (.iload_n 2, 1) := by decide +kernel
theorem dX7_refused_10 : decode cX7_refused 10 = .ok (.ifCond .eq 7, 3) := by decide +kernel
theorem dX7_refused_13 : decode cX7_refused 13 = .ok (.iconst 2, 1) := by decide +kernel
theorem dX7_refused_14 : decode cX7_refused 14 = .ok (.goto 12, 3) := by decide +kernel
theorem dX7_refused_17 : decode cX7_refused 17 = .ok (.iload_n 3, 1) := by decide +kernel
theorem dX7_refused_18 : decode cX7_refused 18 = .ok (.ifCond .eq 7, 3) := by decide +kernel
theorem dX7_refused_21 : decode cX7_refused 21 = .ok (.iconst 3, 1) := by decide +kernel
theorem dX7_refused_22 : decode cX7_refused 22 = .ok (.goto 4, 3) := by decide +kernel
theorem dX7_refused_25 : decode cX7_refused 25 = .ok (.iconst 0, 1) := by decide +kernel
theorem dX7_refused_26 : decode cX7_refused 26 = .ok (.putfield 103, 3) := by decide +kernel
theorem dX7_refused_29 : decode cX7_refused 29 = .ok (.aload_n 0, 1) := by decide +kernel
theorem dX7_refused_30 : decode cX7_refused 30 = .ok (.getfield 103, 3) := by decide +kernel
theorem dX7_refused_33 : decode cX7_refused 33 = .ok (.ifCond .le 7, 3) := by decide +kernel
theorem dX7_refused_36 : decode cX7_refused 36 = .ok (.iconst 1, 1) := by decide +kernel
theorem dX7_refused_37 : decode cX7_refused 37 = .ok (.goto 4, 3) := by decide +kernel
theorem dX7_refused_40 : decode cX7_refused 40 = .ok (.iconst 0, 1) := by decide +kernel
theorem dX7_refused_41 : decode cX7_refused 41 = .ok (.ireturn, 1) := by decide +kernel
theorem dX7_addInt_0 : decode cX7_addInt 0 = .ok (.bipush 24, 2) := by decide +kernel
theorem dX7_addInt_2 : decode cX7_addInt 2 = .ok (.istore_n 2, 1) := by decide +kernel
theorem dX7_addInt_3 : decode cX7_addInt 3 = .ok (.iload_n 2, 1) := by decide +kernel
theorem dX7_addInt_4 : decode cX7_addInt 4 = .ok (.ifCond .lt 32, 3) := by decide +kernel
theorem dX7_addInt_7 : decode cX7_addInt 7 = .ok (.aload_n 0, 1) := by decide +kernel
theorem dX7_addInt_8 : decode cX7_addInt 8 = .ok (.getfield 7, 3) := by decide +kernel
theorem dX7_addInt_11 : decode cX7_addInt 11 = .ok (.aload_n 0, 1) := by decide +kernel
theorem dX7_addInt_12 : decode cX7_addInt 12 = .ok (.getfield 106, 3) := by decide +kernel
theorem dX7_addInt_15 : decode cX7_addInt 15 = .ok (.iload_n 1, 1) := by decide +kernel
theorem dX7_addInt_16 : decode cX7_addInt 16 = .ok (.iload_n 2, 1) := by decide +kernel
theorem dX7_addInt_17 : decode cX7_addInt 17 = .ok (.ishr, 1) := by decide +kernel
theorem dX7_addInt_18 : decode cX7_addInt 18 = .ok (.i2b, 1) := by decide +kernel
theorem dX7_addInt_19 : decode cX7_addInt 19 = .ok (.bastore, 1) := by decide +kernel
theorem dX7_addInt_20 : decode cX7_addInt 20 = .ok (.aload_n 0, 1) := by decide +kernel
theorem dX7_addInt_21 : decode cX7_addInt 21 = .ok (.dup, 1) := by decide +kernel
theorem dX7_addInt_22 : decode cX7_addInt 22 = .ok (.getfield 106, 3) := by decide +kernel
theorem dX7_addInt_25 : decode cX7_addInt 25 = .ok (.iconst 1, 1) := by decide +kernel
theorem dX7_addInt_26 : decode cX7_addInt 26 = .ok (.iadd, 1) := by decide +kernel
theorem dX7_addInt_27 : decode cX7_addInt 27 = .ok (.putfield 106, 3) := by decide +kernel
theorem dX7_addInt_30 : decode cX7_addInt 30 = .ok (.iinc 2 (-8), 3) := by decide +kernel
theorem dX7_addInt_33 : decode cX7_addInt 33 = .ok (.goto (-30), 3) := by decide +kernel
theorem dX7_addInt_36 : decode cX7_addInt 36 = .ok (.return_, 1) := by decide +kernel
set_option maxRecDepth 100000 in
theorem ggX7_feed_X7_refused : GoodIn wsX7_feed wsX7_refused := goodIn_r _ [6, 7, 13, 14, 15, 16, 17, 18, 19, 20, 21, 22, 23, 24, 25, 26, 27, 28, 29, 30, 31, 32, 33, 34, 35, 36, 37, 38, 39, 40, 41, 42, 43, 44, 45, 46, 47, 48, 49, 50, 51, 52, 53, 54] rfl (by decide +kernel)
set_option maxRecDepth 100000 in
theorem gX7_feed_X7_refused : GoodIn wsX7_feed (wsV RX7 109 RX7 yX7_refused wsX7_refused) := goodIn_app (goodIn_of _ (by decide +kernel)) ggX7_feed_X7_refused
set_option maxRecDepth 100000 in
theorem ggX7_feed_X7_addInt : GoodIn wsX7_feed wsX7_addInt := goodIn_r _ [11, 12, 1, 13, 14, 15, 16, 17, 18, 19, 20, 21, 22, 23, 24, 25, 26, 27, 28, 29, 30, 31, 32, 33, 34, 35, 36, 37, 38, 39, 40, 41, 42, 43, 44, 45, 46, 47, 48, 49, 50, 51, 52, 53, 54] rfl (by decide +kernel)
set_option maxRecDepth 100000 in
theorem gX7_feed_X7_addInt : GoodIn wsX7_feed (wsV RX7 113 RX7 yX7_addInt wsX7_addInt) := goodIn_app (goodIn_of _ (by decide +kernel)) ggX7_feed_X7_addInt
theorem dX7_feed_0 : decode cX7_feed 0 = .ok (.aload_n 0, 1) := by decide +kernel
theorem dX7_feed_1 : decode cX7_feed 1 = .ok (.aload_n 0, 1) := by decide +kernel
theorem dX7_feed_2 : decode cX7_feed 2 = .ok (.getfield 106, 3) := by decide +kernel
theorem dX7_feed_5 : decode cX7_feed 5 = .ok (.bipush 16, 2) := by decide +kernel
theorem dX7_feed_7 : decode cX7_feed 7 = .ok (.iadd, 1) := by decide +kernel
theorem dX7_feed_8 : decode cX7_feed 8 = .ok (.sipush 6000, 3) := by decide +kernel
theorem dX7_feed_11 : decode cX7_feed 11 = .ok (.if_icmp .le 7, 3) := by decide +kernel
theorem dX7_feed_14 : decode cX7_feed 14 = .ok (.iconst 1, 1) := by decide +kernel
theorem dX7_feed_15 : decode cX7_feed 15 = .ok (.goto 4, 3) := by decide +kernel
theorem dX7_feed_18 : decode cX7_feed 18 = .ok (.iconst 0, 1) := by decide +kernel
theorem dX7_feed_19 : decode cX7_feed 19 = .ok (.iconst 0, 1) := by decide +kernel
theorem dX7_feed_20 : decode cX7_feed 20 = .ok (.iconst 0, 1) := by decide +kernel
theorem dX7_feed_21 : decode cX7_feed 21 = .ok (.invokevirtual 109, 3) := by decide +kernel
theorem dX7_feed_24 : decode cX7_feed 24 = .ok (.ifCond .eq 5, 3) := by decide +kernel
theorem dX7_feed_27 : decode cX7_feed 27 = .ok (.iconst 0, 1) := by decide +kernel
theorem dX7_feed_28 : decode cX7_feed 28 = .ok (.ireturn, 1) := by decide +kernel
theorem dX7_feed_29 : decode cX7_feed 29 = .ok (.aload_n 0, 1) := by decide +kernel
theorem dX7_feed_30 : decode cX7_feed 30 = .ok (.iload_n 1, 1) := by decide +kernel
theorem dX7_feed_31 : decode cX7_feed 31 = .ok (.invokevirtual 113, 3) := by decide +kernel
theorem dX7_feed_34 : decode cX7_feed 34 = .ok (.aload_n 0, 1) := by decide +kernel
theorem dX7_feed_35 : decode cX7_feed 35 = .ok (.iload_n 2, 1) := by decide +kernel
theorem dX7_feed_36 : decode cX7_feed 36 = .ok (.invokevirtual 113, 3) := by decide +kernel
theorem dX7_feed_39 : decode cX7_feed 39 = .ok (.aload_n 0, 1) := by decide +kernel
theorem dX7_feed_40 : decode cX7_feed 40 = .ok (.iload_n 3, 1) := by decide +kernel
theorem dX7_feed_41 : decode cX7_feed 41 = .ok (.invokevirtual 113, 3) := by decide +kernel
theorem dX7_feed_44 : decode cX7_feed 44 = .ok (.aload_n 0, 1) := by decide +kernel
theorem dX7_feed_45 : decode cX7_feed 45 = .ok (.iload 4, 2) := by decide +kernel
theorem dX7_feed_47 : decode cX7_feed 47 = .ok (.invokevirtual 113, 3) := by decide +kernel
theorem dX7_feed_50 : decode cX7_feed 50 = .ok (.aload_n 0, 1) := by decide +kernel
theorem dX7_feed_51 : decode cX7_feed 51 = .ok (.getfield 106, 3) := by decide +kernel
theorem dX7_feed_54 : decode cX7_feed 54 = .ok (.ireturn, 1) := by decide +kernel
set_option maxRecDepth 100000 in
theorem ggX7_end_X7_refused : GoodIn wsX7_end wsX7_refused := goodIn_r _ [6, 7, 8, 9, 10, 11, 12, 13, 14, 15, 16, 17, 18, 19, 20, 21, 22, 23, 24, 25, 26, 27, 28, 29, 30, 31, 32, 33, 34, 35, 36, 37, 38, 39, 40, 41, 42, 43, 44, 45, 46, 47, 48, 49] rfl (by decide +kernel)
set_option maxRecDepth 100000 in
theorem gX7_end_X7_refused : GoodIn wsX7_end (wsV RX7 109 RX7 yX7_refused wsX7_refused) := goodIn_app (goodIn_of _ (by decide +kernel)) ggX7_end_X7_refused
theorem dX7_end_0 : decode cX7_end 0 = .ok (.aload_n 0, 1) := by decide +kernel
theorem dX7_end_1 : decode cX7_end 1 = .ok (.iload_n 1, 1) := by decide +kernel
theorem dX7_end_2 : decode cX7_end 2 = .ok (.ifCond .lt 11, 3) := by decide +kernel
theorem dX7_end_5 : decode cX7_end 5 = .ok (.iload_n 1, 1) := by decide +kernel
theorem dX7_end_6 : decode cX7_end 6 = .ok (.aload_n 0, 1) := by decide +kernel
theorem dX7_end_7 : decode cX7_end 7 = .ok (.getfield 106, 3) := by decide +kernel
theorem dX7_end_10 : decode cX7_end 10 = .ok (.if_icmp .le 7, 3) := by decide +kernel
theorem dX7_end_13 : decode cX7_end 13 = .ok (.iconst 1, 1) := by decide +kernel
theorem dX7_end_14 : decode cX7_end 14 = .ok (.goto 4, 3) := by decide +kernel
theorem dX7_end_17 : decode cX7_end 17 = .ok (.iconst 0, 1) := by decide +kernel
theorem dX7_end_18 : decode cX7_end 18 = .ok (.iconst 0, 1) := by decide +kernel
theorem dX7_end_19 : decode cX7_end 19 = .ok (.iconst 0, 1) := by decide +kernel
theorem dX7_end_20 : decode cX7_end 20 = .ok (.invokevirtual 109, 3) := by decide +kernel
theorem dX7_end_23 : decode cX7_end 23 = .ok (.ifCond .ne 8, 3) := by decide +kernel
theorem dX7_end_26 : decode cX7_end 26 = .ok (.aload_n 0, 1) := by decide +kernel
theorem dX7_end_27 : decode cX7_end 27 = .ok (.iload_n 1, 1) := by decide +kernel
theorem dX7_end_28 : decode cX7_end 28 = .ok (.putfield 106, 3) := by decide +kernel
theorem dX7_end_31 : decode cX7_end 31 = .ok (.return_, 1) := by decide +kernel
theorem dX7_fail_0 : decode cX7_fail 0 = .ok (.aload_n 0, 1) := by decide +kernel
theorem dX7_fail_1 : decode cX7_fail 1 = .ok (.aload_n 0, 1) := by decide +kernel
theorem dX7_fail_2 : decode cX7_fail 2 = .ok (.getfield 117, 3) := by decide +kernel
theorem dX7_fail_5 : decode cX7_fail 5 = .ok (.ifCond .ne 7, 3) := by decide +kernel
theorem dX7_fail_8 : decode cX7_fail 8 = .ok (.iload_n 1, 1) := by decide +kernel
theorem dX7_fail_9 : decode cX7_fail 9 = .ok (.goto 7, 3) := by decide +kernel
theorem dX7_fail_12 : decode cX7_fail 12 = .ok (.aload_n 0, 1) := by decide +kernel
theorem dX7_fail_13 : decode cX7_fail 13 = .ok (.getfield 117, 3) := by decide +kernel
theorem dX7_fail_16 : decode cX7_fail 16 = .ok (.putfield 117, 3) := by decide +kernel
theorem dX7_fail_19 : decode cX7_fail 19 = .ok (.return_, 1) := by decide +kernel
set_option maxRecDepth 100000 in
theorem ggX7_bit_X7_fail : GoodIn wsX7_bit wsX7_fail := goodIn_r _ [9, 3, 10, 11, 12, 13, 14, 15, 16, 17, 18, 19, 20, 21, 22, 23, 24, 25, 26, 27, 28, 29, 30, 31, 32, 33, 34, 35, 36, 37, 38, 39, 40, 41, 42, 43, 44, 45, 46, 47, 48, 49, 50, 51] rfl (by decide +kernel)
set_option maxRecDepth 100000 in
theorem gX7_bit_X7_fail : GoodIn wsX7_bit (wsV RX7 123 RX7 yX7_fail wsX7_fail) := goodIn_app (goodIn_of _ (by decide +kernel)) ggX7_bit_X7_fail
theorem dX7_bit_0 : decode cX7_bit 0 = .ok (.aload_n 0, 1) := by decide +kernel
theorem dX7_bit_1 : decode cX7_bit 1 = .ok (.getfield 120, 3) := by decide +kernel
theorem dX7_bit_4 : decode cX7_bit 4 = .ok (.bipush 8, 2) := by decide +kernel
theorem dX7_bit_6 : decode cX7_bit 6 = .ok (.aload_n 0, 1) := by decide +kernel
theorem dX7_bit_7 : decode cX7_bit 7 = .ok (.getfield 106, 3) := by decide +kernel
theorem dX7_bit_10 : decode cX7_bit 10 = .ok (.imul, 1) := by decide +kernel
theorem dX7_bit_11 : decode cX7_bit 11 = .ok (.if_icmp .ne 8, 3) := by decide +kernel
theorem dX7_bit_14 : decode cX7_bit 14 = .ok (.aload_n 0, 1) := by decide +kernel
theorem dX7_bit_15 : decode cX7_bit 15 = .ok (.iconst 1, 1) := by decide +kernel
theorem dX7_bit_16 : decode cX7_bit 16 = .ok (.invokevirtual 123, 3) := by decide +kernel
theorem dX7_bit_19 : decode cX7_bit 19 = .ok (.aload_n 0, 1) := by decide +kernel
theorem dX7_bit_20 : decode cX7_bit 20 = .ok (.getfield 117, 3) := by decide +kernel
theorem dX7_bit_23 : decode cX7_bit 23 = .ok (.ifCond .le 5, 3) := by decide +kernel
theorem dX7_bit_26 : decode cX7_bit 26 = .ok (.iconst 0, 1) := by decide +kernel
theorem dX7_bit_27 : decode cX7_bit 27 = .ok (.ireturn, 1) := by decide +kernel
theorem dX7_bit_28 : decode cX7_bit 28 = .ok (.aload_n 0, 1) := by decide +kernel
theorem dX7_bit_29 : decode cX7_bit 29 = .ok (.getfield 7, 3) := by decide +kernel
theorem dX7_bit_32 : decode cX7_bit 32 = .ok (.aload_n 0, 1) := by decide +kernel
theorem dX7_bit_33 : decode cX7_bit 33 = .ok (.getfield 120, 3) := by decide +kernel
theorem dX7_bit_36 : decode cX7_bit 36 = .ok (.bipush 8, 2) := by decide +kernel
theorem dX7_bit_38 : decode cX7_bit 38 = .ok (.idiv, 1) := by decide +kernel
theorem dX7_bit_39 : decode cX7_bit 39 = .ok (.baload, 1) := by decide +kernel
theorem dX7_bit_40 : decode cX7_bit 40 = .ok (.bipush 7, 2) := by decide +kernel
theorem dX7_bit_42 : decode cX7_bit 42 = .ok (.aload_n 0, 1) := by decide +kernel
theorem dX7_bit_43 : decode cX7_bit 43 = .ok (.getfield 120, 3) := by decide +kernel
theorem dX7_bit_46 : decode cX7_bit 46 = .ok (.bipush 8, 2) := by decide +kernel
theorem dX7_bit_48 : decode cX7_bit 48 = .ok (.irem, 1) := by decide +kernel
theorem dX7_bit_49 : decode cX7_bit 49 = .ok (.isub, 1) := by decide +kernel
theorem dX7_bit_50 : decode cX7_bit 50 = .ok (.ishr, 1) := by decide +kernel
theorem dX7_bit_51 : decode cX7_bit 51 = .ok (.iconst 1, 1) := by decide +kernel
theorem dX7_bit_52 : decode cX7_bit 52 = .ok (.iand, 1) := by decide +kernel
theorem dX7_bit_53 : decode cX7_bit 53 = .ok (.istore_n 1, 1) := by decide +kernel
theorem dX7_bit_54 : decode cX7_bit 54 = .ok (.aload_n 0, 1) := by decide +kernel
theorem dX7_bit_55 : decode cX7_bit 55 = .ok (.dup, 1) := by decide +kernel
theorem dX7_bit_56 : decode cX7_bit 56 = .ok (.getfield 120, 3) := by decide +kernel
theorem dX7_bit_59 : decode cX7_bit 59 = .ok (.iconst 1, 1) := by decide +kernel
theorem dX7_bit_60 : decode cX7_bit 60 = .ok (.iadd, 1) := by decide +kernel
theorem dX7_bit_61 : decode cX7_bit 61 = .ok (.putfield 120, 3) := by decide +kernel
theorem dX7_bit_64 : decode cX7_bit 64 = .ok (.iload_n 1, 1) := by decide +kernel
theorem dX7_bit_65 : decode cX7_bit 65 = .ok (.ireturn, 1) := by decide +kernel
set_option maxRecDepth 100000 in
theorem ggX7_bits_X7_bit : GoodIn wsX7_bits wsX7_bit := goodIn_r _ [5, 6, 7, 8, 9, 10, 11, 12, 4, 13, 14, 15, 16, 17, 18, 19, 20, 21, 22, 23, 24, 25, 26, 27, 28, 29, 30, 31, 32, 33, 34, 35, 36, 37, 38, 39, 40, 41, 42, 43, 44, 45, 46, 47, 48, 49, 50, 51, 52, 53, 54, 55] rfl (by decide +kernel)
set_option maxRecDepth 100000 in
theorem gX7_bits_X7_bit : GoodIn wsX7_bits (wsV RX7 126 RX7 yX7_bit wsX7_bit) := goodIn_app (goodIn_of _ (by decide +kernel)) ggX7_bits_X7_bit
theorem dX7_bits_0 : decode cX7_bits 0 = .ok (.iconst 0, 1) := by decide +kernel
theorem dX7_bits_1 : decode cX7_bits 1 = .ok (.istore_n 2, 1) := by decide +kernel
theorem dX7_bits_2 : decode cX7_bits 2 = .ok (.iconst 0, 1) := by decide +kernel
theorem dX7_bits_3 : decode cX7_bits 3 = .ok (.istore_n 3, 1) := by decide +kernel
theorem dX7_bits_4 : decode cX7_bits 4 = .ok (.iload_n 3, 1) := by decide +kernel
theorem dX7_bits_5 : decode cX7_bits 5 = .ok (.iload_n 1, 1) := by decide +kernel
theorem dX7_bits_6 : decode cX7_bits 6 = .ok (.if_icmp .ge 18, 3) := by decide +kernel
theorem dX7_bits_9 : decode cX7_bits 9 = .ok (.iconst 2, 1) := by decide +kernel
theorem dX7_bits_10 : decode cX7_bits 10 = .ok (.iload_n 2, 1) := by decide +kernel
theorem dX7_bits_11 : decode cX7_bits 11 = .ok (.imul, 1) := by decide +kernel
theorem dX7_bits_12 : decode cX7_bits 12 = .ok (.aload_n 0, 1) := by decide +kernel
theorem dX7_bits_13 : decode cX7_bits 13 = .ok (.invokevirtual 126, 3) := by decide +kernel
theorem dX7_bits_16 : decode cX7_bits 16 = .ok (.iadd, 1) := by decide +kernel
theorem dX7_bits_17 : decode cX7_bits 17 = .ok (.istore_n 2, 1) := by decide +kernel
theorem dX7_bits_18 : decode cX7_bits 18 = .ok (.iinc 3 1, 3) := by decide +kernel
theorem dX7_bits_21 : decode cX7_bits 21 = .ok (.goto (-17), 3) := by decide +kernel
theorem dX7_bits_24 : decode cX7_bits 24 = .ok (.iload_n 2, 1) := by decide +kernel
theorem dX7_bits_25 : decode cX7_bits 25 = .ok (.ireturn, 1) := by decide +kernel
set_option maxRecDepth 100000 in
theorem ggX7_readTree_X7_bit : GoodIn wsX7_readTree wsX7_bit := goodIn_r _ [10, 11, 12, 5, 13, 14, 15, 16, 9, 17, 22, 23, 24, 25, 26, 27, 28, 29, 30, 31, 32, 33, 34, 35, 36, 37, 38, 39, 40, 41, 42, 43, 44, 45, 46, 47, 48, 49, 50, 51, 52, 53, 54, 55, 56, 57, 58, 59, 60, 61, 62, 63] rfl (by decide +kernel)
set_option maxRecDepth 100000 in
theorem gX7_readTree_X7_bit : GoodIn wsX7_readTree (wsV RX7 126 RX7 yX7_bit wsX7_bit) := goodIn_app (goodIn_of _ (by decide +kernel)) ggX7_readTree_X7_bit
set_option maxRecDepth 100000 in
theorem ggX7_readTree_X7_fail : GoodIn wsX7_readTree wsX7_fail := goodIn_r _ [17, 5, 22, 23, 24, 25, 26, 27, 28, 29, 30, 31, 32, 33, 34, 35, 36, 37, 38, 39, 40, 41, 42, 43, 44, 45, 46, 47, 48, 49, 50, 51, 52, 53, 54, 55, 56, 57, 58, 59, 60, 61, 62, 63] rfl (by decide +kernel)
set_option maxRecDepth 100000 in
theorem gX7_readTree_X7_fail : GoodIn wsX7_readTree (wsV RX7 123 RX7 yX7_fail wsX7_fail) := goodIn_app (goodIn_of _ (by decide +kernel)) ggX7_readTree_X7_fail
set_option maxRecDepth 100000 in
theorem ggX7_readTree_X7_bits : GoodIn wsX7_readTree wsX7_bits := goodIn_r _ [21, 6, 7, 8, 9, 10, 11, 12, 5, 13, 14, 15, 16, 17, 22, 23, 24, 25, 26, 27, 28, 29, 30, 31, 32, 33, 34, 35, 36, 37, 38, 39, 40, 41, 42, 43, 44, 45, 46, 47, 48, 49, 50, 51, 52, 53, 54, 55, 56, 57, 58, 59, 60, 61, 62, 63] rfl (by decide +kernel)
set_option maxRecDepth 100000 in
theorem gX7_readTree_X7_bits : GoodIn wsX7_readTree (wsV RX7 130 RX7 yX7_bits wsX7_bits) := goodIn_app (goodIn_of _ (by decide +kernel)) ggX7_readTree_X7_bits
theorem dX7_readTree_0 : decode cX7_readTree 0 = .ok (.iconst 0, 1) := by decide +kernel
theorem dX7_readTree_1 : decode cX7_readTree 1 = .ok (.istore_n 2, 1) := by decide +kernel
theorem dX7_readTree_2 : decode cX7_readTree 2 = .ok (.iconst 0, 1) := by decide +kernel
theorem dX7_readTree_3 : decode cX7_readTree 3 = .ok (.istore_n 3, 1) := by decide +kernel
theorem dX7_readTree_4 : decode cX7_readTree 4 = .ok (.sipush 256, 3) := by decide +kernel
theorem dX7_readTree_7 : decode cX7_readTree 7 = .ok (.iload_n 1, 1) := by decide +kernel
theorem dX7_readTree_8 : decode cX7_readTree 8 = .ok (.imul, 1) := by decide +kernel
theorem dX7_readTree_9 : decode cX7_readTree 9 = .ok (.istore 4, 2) := by decide +kernel
theorem dX7_readTree_11 : decode cX7_readTree 11 = .ok (.aload_n 0, 1) := by decide +kernel
theorem dX7_readTree_12 : decode cX7_readTree 12 = .ok (.getfield 32, 3) := by decide +kernel
theorem dX7_readTree_15 : decode cX7_readTree 15 = .ok (.iload_n 1, 1) := by decide +kernel
theorem dX7_readTree_16 : decode cX7_readTree 16 = .ok (.iconst 0, 1) := by decide +kernel
theorem dX7_readTree_17 : decode cX7_readTree 17 = .ok (.iastore, 1) := by decide +kernel
theorem dX7_readTree_18 : decode cX7_readTree 18 = .ok (.iconst 1, 1) := by decide +kernel
theorem dX7_readTree_19 : decode cX7_readTree 19 = .ok (.istore 5, 2) := by decide +kernel
theorem dX7_readTree_21 : decode cX7_readTree 21 = .ok (.iload 5, 2) := by decide +kernel
theorem dX7_readTree_23 : decode cX7_readTree 23 = .ok (.ifCond .eq 237, 3) := by decide +kernel
theorem dX7_readTree_26 : decode cX7_readTree 26 = .ok (.aload_n 0, 1) := by decide +kernel
theorem dX7_readTree_27 : decode cX7_readTree 27 = .ok (.invokevirtual 126, 3) := by decide +kernel
theorem dX7_readTree_30 : decode cX7_readTree 30 = .ok (.ifCond .ne 52, 3) := by decide +kernel
theorem dX7_readTree_33 : decode cX7_readTree 33 = .ok (.iload_n 3, 1) := by decide +kernel
theorem dX7_readTree_34 : decode cX7_readTree 34 = .ok (.bipush 12, 2) := by decide +kernel
theorem dX7_readTree_36 : decode cX7_readTree 36 = .ok (.if_icmp .ne 8, 3) := by decide +kernel
theorem dX7_readTree_39 : decode cX7_readTree 39 = .ok (.aload_n 0, 1) := by decide +kernel
theorem dX7_readTree_40 : decode cX7_readTree 40 = .ok (.iconst 3, 1) := by decide +kernel
theorem dX7_readTree_41 : decode cX7_readTree 41 = .ok (.invokevirtual 123, 3) := by decide +kernel
theorem dX7_readTree_44 : decode cX7_readTree 44 = .ok (.iload 4, 2) := by decide +kernel
theorem dX7_readTree_46 : decode cX7_readTree 46 = .ok (.iconst 2, 1) := by decide +kernel
theorem dX7_readTree_47 : decode cX7_readTree 47 = .ok (.idiv, 1) := by decide +kernel
theorem dX7_readTree_48 : decode cX7_readTree 48 = .ok (.iload_n 2, 1) := by decide +kernel
theorem dX7_readTree_49 : decode cX7_readTree 49 = .ok (.iadd, 1) := by decide +kernel
theorem dX7_readTree_50 : decode cX7_readTree 50 = .ok (.istore 6, 2) := by decide +kernel
theorem dX7_readTree_52 : decode cX7_readTree 52 = .ok (.iinc 2 1, 3) := by decide +kernel
theorem dX7_readTree_55 : decode cX7_readTree 55 = .ok (.aload_n 0, 1) := by decide +kernel
theorem dX7_readTree_56 : decode cX7_readTree 56 = .ok (.getfield 26, 3) := by decide +kernel
theorem dX7_readTree_59 : decode cX7_readTree 59 = .ok (.iconst 2, 1) := by decide +kernel
theorem dX7_readTree_60 : decode cX7_readTree 60 = .ok (.iload 6, 2) := by decide +kernel
theorem dX7_readTree_62 : decode cX7_readTree 62 = .ok (.imul, 1) := by decide +kernel
theorem dX7_readTree_63 : decode cX7_readTree 63 = .ok (.bipush 99, 2) := by decide +kernel
theorem dX7_readTree_65 : decode cX7_readTree 65 = .ok (.iastore, 1) := by decide +kernel
theorem dX7_readTree_66 : decode cX7_readTree 66 = .ok (.aload_n 0, 1) := by decide +kernel
theorem dX7_readTree_67 : decode cX7_readTree 67 = .ok (.getfield 26, 3) := by decide +kernel
theorem dX7_readTree_70 : decode cX7_readTree 70 = .ok (.iconst 2, 1) := by decide +kernel
theorem dX7_readTree_71 : decode cX7_readTree 71 = .ok (.iload 6, 2) := by decide +kernel
theorem dX7_readTree_73 : decode cX7_readTree 73 = .ok (.imul, 1) := by decide +kernel
theorem dX7_readTree_74 : decode cX7_readTree 74 = .ok (.iconst 1, 1) := by decide +kernel
theorem dX7_readTree_75 : decode cX7_readTree 75 = .ok (.iadd, 1) := by decide +kernel
theorem dX7_readTree_76 : decode cX7_readTree 76 = .ok (.bipush 99, 2) := by decide +kernel
theorem dX7_readTree_78 : decode cX7_readTree 78 = .ok (.iastore, 1) := by decide +kernel
theorem dX7_readTree_79 : decode cX7_readTree 79 = .ok (.goto 38, 3) := by decide +kernel
theorem dX7_readTree_82 : decode cX7_readTree 82 = .ok (.aload_n 0, 1) := by decide +kernel
theorem dX7_readTree_83 : decode cX7_readTree 83 = .ok (.getfield 32, 3) := by decide +kernel
theorem dX7_readTree_86 : decode cX7_readTree 86 = .ok (.iload_n 1, 1) := by decide +kernel
theorem dX7_readTree_87 : decode cX7_readTree 87 = .ok (.iaload, 1) := by decide +kernel
theorem dX7_readTree_88 : decode cX7_readTree 88 = .ok (.bipush 32, 2) := by decide +kernel
theorem dX7_readTree_90 : decode cX7_readTree 90 = .ok (.if_icmp .ne 8, 3) := by decide +kernel
theorem dX7_readTree_93 : decode cX7_readTree 93 = .ok (.aload_n 0, 1) := by decide +kernel
theorem dX7_readTree_94 : decode cX7_readTree 94 = .ok (.iconst 3, 1) := by decide +kernel
theorem dX7_readTree_95 : decode cX7_readTree 95 = .ok (.invokevirtual 123, 3) := by decide +kernel
theorem dX7_readTree_98 : decode cX7_readTree 98 = .ok (.iconst (-1), 1) := by decide +kernel
theorem dX7_readTree_99 : decode cX7_readTree 99 = .ok (.aload_n 0, 1) := by decide +kernel
theorem dX7_readTree_100 : decode cX7_readTree 100 = .ok (.iconst 5, 1) := by decide +kernel
theorem dX7_readTree_101 : decode cX7_readTree 101 = .ok (.invokevirtual 130, 3) := by decide +kernel
theorem dX7_readTree_104 : decode cX7_readTree 104 = .ok (.isub, 1) := by decide +kernel
theorem dX7_readTree_105 : decode cX7_readTree 105 = .ok (.istore 6, 2) := by decide +kernel
theorem dX7_readTree_107 : decode cX7_readTree 107 = .ok (.aload_n 0, 1) := by decide +kernel
theorem dX7_readTree_108 : decode cX7_readTree 108 = .ok (.getfield 32, 3) := by decide +kernel
theorem dX7_readTree_111 : decode cX7_readTree 111 = .ok (.iload_n 1, 1) := by decide +kernel
theorem dX7_readTree_112 : decode cX7_readTree 112 = .ok (.dup2, 1) := by decide +kernel
theorem dX7_readTree_113 : decode cX7_readTree 113 = .ok (.iaload, 1) := by decide +kernel
theorem dX7_readTree_114 : decode cX7_readTree 114 = .ok (.iconst 1, 1) := by decide +kernel
theorem dX7_readTree_115 : decode cX7_readTree 115 = .ok (.iadd, 1) := by decide +kernel
theorem dX7_readTree_116 : decode cX7_readTree 116 = .ok (.iastore, 1) := by decide +kernel
theorem dX7_readTree_117 : decode cX7_readTree 117 = .ok (.iload_n 3, 1) := by decide +kernel
theorem dX7_readTree_118 : decode cX7_readTree 118 = .ok (.ifCond .ne 14, 3) := by decide +kernel
theorem dX7_readTree_121 : decode cX7_readTree 121 = .ok (.aload_n 0, 1) := by decide +kernel
theorem dX7_readTree_122 : decode cX7_readTree 122 = .ok (.getfield 29, 3) := by decide +kernel
theorem dX7_readTree_125 : decode cX7_readTree 125 = .ok (.iload_n 1, 1) := by decide +kernel
theorem dX7_readTree_126 : decode cX7_readTree 126 = .ok (.iload 6, 2) := by decide +kernel
theorem dX7_readTree_128 : decode cX7_readTree 128 = .ok (.iastore, 1) := by decide +kernel
theorem dX7_readTree_129 : decode cX7_readTree 129 = .ok (.goto 62, 3) := by decide +kernel
theorem dX7_readTree_132 : decode cX7_readTree 132 = .ok (.aload_n 0, 1) := by decide +kernel
theorem dX7_readTree_133 : decode cX7_readTree 133 = .ok (.getfield 26, 3) := by decide +kernel
theorem dX7_readTree_136 : decode cX7_readTree 136 = .ok (.iconst 2, 1) := by decide +kernel
theorem dX7_readTree_137 : decode cX7_readTree 137 = .ok (.aload_n 0, 1) := by decide +kernel
theorem dX7_readTree_138 : decode cX7_readTree 138 = .ok (.getfield 35, 3) := by decide +kernel
theorem dX7_readTree_141 : decode cX7_readTree 141 = .ok (.iload_n 3, 1) := by decide +kernel
theorem dX7_readTree_142 : decode cX7_readTree 142 = .ok (.iconst 1, 1) := by decide +kernel
theorem dX7_readTree_143 : decode cX7_readTree 143 = .ok (.isub, 1) := by decide +kernel
theorem dX7_readTree_144 : decode cX7_readTree 144 = .ok (.iaload, 1) := by decide +kernel
theorem dX7_readTree_145 : decode cX7_readTree 145 = .ok (.imul, 1) := by decide +kernel
theorem dX7_readTree_146 : decode cX7_readTree 146 = .ok (.iaload, 1) := by decide +kernel
theorem dX7_readTree_147 : decode cX7_readTree 147 = .ok (.bipush 99, 2) := by decide +kernel
theorem dX7_readTree_149 : decode cX7_readTree 149 = .ok (.if_icmp .ne 23, 3) := by decide +kernel
theorem dX7_readTree_152 : decode cX7_readTree 152 = .ok (.aload_n 0, 1) := by decide +kernel
theorem dX7_readTree_153 : decode cX7_readTree 153 = .ok (.getfield 26, 3) := by decide +kernel
theorem dX7_readTree_156 : decode cX7_readTree 156 = .ok (.iconst 2, 1) := by decide +kernel
theorem dX7_readTree_157 : decode cX7_readTree 157 = .ok (.aload_n 0, 1) := by decide +kernel
theorem dX7_readTree_158 : decode cX7_readTree 158 = .ok (.getfield 35, 3) := by decide +kernel
theorem dX7_readTree_161 : decode cX7_readTree 161 = .ok (.iload_n 3, 1) := by decide +kernel
theorem dX7_readTree_162 : decode cX7_readTree 162 = .ok (.iconst 1, 1) := by decide +kernel
theorem dX7_readTree_163 : decode cX7_readTree 163 = .ok (.isub, 1) := by decide +kernel
theorem dX7_readTree_164 : decode cX7_readTree 164 = .ok (.iaload, 1) := by decide +kernel
theorem dX7_readTree_165 : decode cX7_readTree 165 = .ok (.imul, 1) := by decide +kernel
theorem dX7_readTree_166 : decode cX7_readTree 166 = .ok (.iload 6, 2) := by decide +kernel
theorem dX7_readTree_168 : decode cX7_readTree 168 = .ok (.iastore, 1) := by decide +kernel
theorem dX7_readTree_169 : decode cX7_readTree 169 = .ok (.goto 22, 3) := by decide +kernel
theorem dX7_readTree_172 : decode cX7_readTree 172 = .ok (.aload_n 0, 1) := by decide +kernel
theorem dX7_readTree_173 : decode cX7_readTree 173 = .ok (.getfield 26, 3) := by decide +kernel
theorem dX7_readTree_176 : decode cX7_readTree 176 = .ok (.iconst 2, 1) := by decide +kernel
theorem dX7_readTree_177 : decode cX7_readTree 177 = .ok (.aload_n 0, 1) := by decide +kernel
theorem dX7_readTree_178 : decode cX7_readTree 178 = .ok (.getfield 35, 3) := by decide +kernel
theorem dX7_readTree_181 : decode cX7_readTree 181 = .ok (.iload_n 3, 1) := by decide +kernel
theorem dX7_readTree_182 : decode cX7_readTree 182 = .ok (.iconst 1, 1) := by decide +kernel
theorem dX7_readTree_183 : decode cX7_readTree 183 = .ok (.isub, 1) := by decide +kernel
theorem dX7_readTree_184 : decode cX7_readTree 184 = .ok (.iaload, 1) := by decide +kernel
theorem dX7_readTree_185 : decode cX7_readTree 185 = .ok (.imul, 1) := by decide +kernel
theorem dX7_readTree_186 : decode cX7_readTree 186 = .ok (.iconst 1, 1) := by decide +kernel
theorem dX7_readTree_187 : decode cX7_readTree 187 = .ok (.iadd, 1) := by decide +kernel
theorem dX7_readTree_188 : decode cX7_readTree 188 = .ok (.iload 6, 2) := by decide +kernel
theorem dX7_readTree_190 : decode cX7_readTree 190 = .ok (.iastore, 1) := by decide +kernel
theorem dX7_readTree_191 : decode cX7_readTree 191 = .ok (.iload 6, 2) := by decide +kernel
theorem dX7_readTree_193 : decode cX7_readTree 193 = .ok (.ifCond .lt 14, 3) := by decide +kernel
theorem dX7_readTree_196 : decode cX7_readTree 196 = .ok (.aload_n 0, 1) := by decide +kernel
theorem dX7_readTree_197 : decode cX7_readTree 197 = .ok (.getfield 35, 3) := by decide +kernel
theorem dX7_readTree_200 : decode cX7_readTree 200 = .ok (.iload_n 3, 1) := by decide +kernel
theorem dX7_readTree_201 : decode cX7_readTree 201 = .ok (.iload 6, 2) := by decide +kernel
theorem dX7_readTree_203 : decode cX7_readTree 203 = .ok (.iastore, 1) := by decide +kernel
theorem dX7_readTree_204 : decode cX7_readTree 204 = .ok (.iinc 3 1, 3) := by decide +kernel
theorem dX7_readTree_207 : decode cX7_readTree 207 = .ok (.iload_n 3, 1) := by decide +kernel
theorem dX7_readTree_208 : decode cX7_readTree 208 = .ok (.ifCond .le 31, 3) := by decide +kernel
theorem dX7_readTree_211 : decode cX7_readTree 211 = .ok (.aload_n 0, 1) := by decide +kernel
theorem dX7_readTree_212 : decode cX7_readTree 212 = .ok (.getfield 26, 3) := by decide +kernel
theorem dX7_readTree_215 : decode cX7_readTree 215 = .ok (.iconst 2, 1) := by decide +kernel
theorem dX7_readTree_216 : decode cX7_readTree 216 = .ok (.aload_n 0, 1) := by decide +kernel
theorem dX7_readTree_217 : decode cX7_readTree 217 = .ok (.getfield 35, 3) := by decide +kernel
theorem dX7_readTree_220 : decode cX7_readTree 220 = .ok (.iload_n 3, 1) := by decide +kernel
theorem dX7_readTree_221 : decode cX7_readTree 221 = .ok (.iconst 1, 1) := by decide +kernel
theorem dX7_readTree_222 : decode cX7_readTree 222 = .ok (.isub, 1) := by decide +kernel
theorem dX7_readTree_223 : decode cX7_readTree 223 = .ok (.iaload, 1) := by decide +kernel
theorem dX7_readTree_224 : decode cX7_readTree 224 = .ok (.imul, 1) := by decide +kernel
theorem dX7_readTree_225 : decode cX7_readTree 225 = .ok (.iconst 1, 1) := by decide +kernel
theorem dX7_readTree_226 : decode cX7_readTree 226 = .ok (.iadd, 1) := by decide +kernel
theorem dX7_readTree_227 : decode cX7_readTree 227 = .ok (.iaload, 1) := by decide +kernel
theorem dX7_readTree_228 : decode cX7_readTree 228 = .ok (.bipush 99, 2) := by decide +kernel
theorem dX7_readTree_230 : decode cX7_readTree 230 = .ok (.if_icmp .eq 9, 3) := by decide +kernel
theorem dX7_readTree_233 : decode cX7_readTree 233 = .ok (.iinc 3 (-1), 3) := by decide +kernel
theorem dX7_readTree_236 : decode cX7_readTree 236 = .ok (.goto (-29), 3) := by decide +kernel
theorem dX7_readTree_239 : decode cX7_readTree 239 = .ok (.iload_n 3, 1) := by decide +kernel
theorem dX7_readTree_240 : decode cX7_readTree 240 = .ok (.ifCond .le 14, 3) := by decide +kernel
theorem dX7_readTree_243 : decode cX7_readTree 243 = .ok (.aload_n 0, 1) := by decide +kernel
theorem dX7_readTree_244 : decode cX7_readTree 244 = .ok (.getfield 117, 3) := by decide +kernel
theorem dX7_readTree_247 : decode cX7_readTree 247 = .ok (.ifCond .ne 7, 3) := by decide +kernel
theorem dX7_readTree_250 : decode cX7_readTree 250 = .ok (.iconst 1, 1) := by decide +kernel
theorem dX7_readTree_251 : decode cX7_readTree 251 = .ok (.goto 4, 3) := by decide +kernel
theorem dX7_readTree_254 : decode cX7_readTree 254 = .ok (.iconst 0, 1) := by decide +kernel
theorem dX7_readTree_255 : decode cX7_readTree 255 = .ok (.istore 5, 2) := by decide +kernel
theorem dX7_readTree_257 : decode cX7_readTree 257 = .ok (.goto (-236), 3) := by decide +kernel
theorem dX7_readTree_260 : decode cX7_readTree 260 = .ok (.return_, 1) := by decide +kernel
set_option maxRecDepth 100000 in
theorem ggX7_readHeader_X7_bits : GoodIn wsX7_readHeader wsX7_bits := goodIn_r _ [16, 17, 18, 19, 15, 20, 21, 22, 3, 23, 24, 25, 26, 27, 33, 34, 35, 36, 37, 38, 39, 40, 41, 42, 43, 44, 45, 46, 47, 48, 49, 50, 51, 52, 53, 54, 55, 56, 57, 58, 59, 60, 61, 62, 63, 64, 65, 66, 67, 68, 69, 70, 71, 72, 73, 74] rfl (by decide +kernel)
set_option maxRecDepth 100000 in
theorem gX7_readHeader_X7_bits : GoodIn wsX7_readHeader (wsV RX7 130 RX7 yX7_bits wsX7_bits) := goodIn_app (goodIn_of _ (by decide +kernel)) ggX7_readHeader_X7_bits
set_option maxRecDepth 100000 in
theorem ggX7_readHeader_X7_fail : GoodIn wsX7_readHeader wsX7_fail := goodIn_r _ [27, 3, 33, 34, 35, 36, 37, 38, 39, 40, 41, 42, 43, 44, 45, 46, 47, 48, 49, 50, 51, 52, 53, 54, 55, 56, 57, 58, 59, 60, 61, 62, 63, 64, 65, 66, 67, 68, 69, 70, 71, 72, 73, 74] rfl (by decide +kernel)
set_option maxRecDepth 100000 in
theorem gX7_readHeader_X7_fail : GoodIn wsX7_readHeader (wsV RX7 123 RX7 yX7_fail wsX7_fail) := goodIn_app (goodIn_of _ (by decide +kernel)) ggX7_readHeader_X7_fail
set_option maxRecDepth 100000 in
theorem ggX7_readHeader_X7_readTree : GoodIn wsX7_readHeader wsX7_readTree := goodIn_r _ [31, 11, 9, 10, 32, 3, 17, 18, 19, 15, 20, 21, 22, 23, 24, 25, 26, 27, 12, 13, 14, 16, 33, 34, 35, 36, 37, 38, 39, 40, 41, 42, 43, 44, 45, 46, 47, 48, 49, 50, 51, 52, 53, 54, 55, 56, 57, 58, 59, 60, 61, 62, 63, 64, 65, 66, 67, 68, 69, 70, 71, 72, 73, 74] rfl (by decide +kernel)
set_option maxRecDepth 100000 in
theorem gX7_readHeader_X7_readTree : GoodIn wsX7_readHeader (wsV RX7 134 RX7 yX7_readTree wsX7_readTree) := goodIn_app (goodIn_of _ (by decide +kernel)) ggX7_readHeader_X7_readTree
theorem dX7_readHeader_0 : decode cX7_readHeader 0 = .ok (.aload_n 0, 1) := by decide +kernel
theorem dX7_readHeader_1 : decode cX7_readHeader 1 = .ok (.iconst 3, 1) := by decide +kernel
theorem dX7_readHeader_2 : decode cX7_readHeader 2 = .ok (.invokevirtual 130, 3) := by decide +kernel
theorem dX7_readHeader_5 : decode cX7_readHeader 5 = .ok (.iconst 1, 1) := by decide +kernel
theorem dX7_readHeader_6 : decode cX7_readHeader 6 = .ok (.iadd, 1) := by decide +kernel
theorem dX7_readHeader_7 : decode cX7_readHeader 7 = .ok (.istore_n 1, 1) := by decide +kernel
theorem dX7_readHeader_8 : decode cX7_readHeader 8 = .ok (.aload_n 0, 1) := by decide +kernel
theorem dX7_readHeader_9 : decode cX7_readHeader 9 = .ok (.iconst 3, 1) := by decide +kernel
theorem dX7_readHeader_10 : decode cX7_readHeader 10 = .ok (.invokevirtual 130, 3) := by decide +kernel
theorem dX7_readHeader_13 : decode cX7_readHeader 13 = .ok (.iconst 1, 1) := by decide +kernel
theorem dX7_readHeader_14 : decode cX7_readHeader 14 = .ok (.iadd, 1) := by decide +kernel
theorem dX7_readHeader_15 : decode cX7_readHeader 15 = .ok (.istore_n 2, 1) := by decide +kernel
theorem dX7_readHeader_16 : decode cX7_readHeader 16 = .ok (.iload_n 1, 1) := by decide +kernel
theorem dX7_readHeader_17 : decode cX7_readHeader 17 = .ok (.bipush 6, 2) := by decide +kernel
theorem dX7_readHeader_19 : decode cX7_readHeader 19 = .ok (.if_icmp .gt 9, 3) := by decide +kernel
theorem dX7_readHeader_22 : decode cX7_readHeader 22 = .ok (.iload_n 2, 1) := by decide +kernel
theorem dX7_readHeader_23 : decode cX7_readHeader 23 = .ok (.bipush 6, 2) := by decide +kernel
theorem dX7_readHeader_25 : decode cX7_readHeader 25 = .ok (.if_icmp .le 8, 3) := by decide +kernel
theorem dX7_readHeader_28 : decode cX7_readHeader 28 = .ok (.aload_n 0, 1) := by decide +kernel
theorem dX7_readHeader_29 : decode cX7_readHeader 29 = .ok (.iconst 2, 1) := by decide +kernel
theorem dX7_readHeader_30 : decode cX7_readHeader 30 = .ok (.invokevirtual 123, 3) := by decide +kernel
theorem dX7_readHeader_33 : decode cX7_readHeader 33 = .ok (.aload_n 0, 1) := by decide +kernel
theorem dX7_readHeader_34 : decode cX7_readHeader 34 = .ok (.iconst 5, 1) := by decide +kernel
theorem dX7_readHeader_35 : decode cX7_readHeader 35 = .ok (.invokevirtual 130, 3) := by decide +kernel
theorem dX7_readHeader_38 : decode cX7_readHeader 38 = .ok (.istore_n 3, 1) := by decide +kernel
theorem dX7_readHeader_39 : decode cX7_readHeader 39 = .ok (.iconst 0, 1) := by decide +kernel
theorem dX7_readHeader_40 : decode cX7_readHeader 40 = .ok (.istore 4, 2) := by decide +kernel
theorem dX7_readHeader_42 : decode cX7_readHeader 42 = .ok (.iload 4, 2) := by decide +kernel
theorem dX7_readHeader_44 : decode cX7_readHeader 44 = .ok (.bipush 8, 2) := by decide +kernel
theorem dX7_readHeader_46 : decode cX7_readHeader 46 = .ok (.if_icmp .ge 22, 3) := by decide +kernel
theorem dX7_readHeader_49 : decode cX7_readHeader 49 = .ok (.aload_n 0, 1) := by decide +kernel
theorem dX7_readHeader_50 : decode cX7_readHeader 50 = .ok (.getfield 20, 3) := by decide +kernel
theorem dX7_readHeader_53 : decode cX7_readHeader 53 = .ok (.iload 4, 2) := by decide +kernel
theorem dX7_readHeader_55 : decode cX7_readHeader 55 = .ok (.aload_n 0, 1) := by decide +kernel
theorem dX7_readHeader_56 : decode cX7_readHeader 56 = .ok (.bipush 10, 2) := by decide +kernel
theorem dX7_readHeader_58 : decode cX7_readHeader 58 = .ok (.invokevirtual 130, 3) := by decide +kernel
theorem dX7_readHeader_61 : decode cX7_readHeader 61 = .ok (.iastore, 1) := by decide +kernel
theorem dX7_readHeader_62 : decode cX7_readHeader 62 = .ok (.iinc 4 1, 3) := by decide +kernel
theorem dX7_readHeader_65 : decode cX7_readHeader 65 = .ok (.goto (-23), 3) := by decide +kernel
theorem dX7_readHeader_68 : decode cX7_readHeader 68 = .ok (.iconst 0, 1) := by decide +kernel
theorem dX7_readHeader_69 : decode cX7_readHeader 69 = .ok (.istore 4, 2) := by decide +kernel
theorem dX7_readHeader_71 : decode cX7_readHeader 71 = .ok (.iload 4, 2) := by decide +kernel
theorem dX7_readHeader_73 : decode cX7_readHeader 73 = .ok (.bipush 16, 2) := by decide +kernel
theorem dX7_readHeader_75 : decode cX7_readHeader 75 = .ok (.if_icmp .ge 22, 3) := by decide +kernel
theorem dX7_readHeader_78 : decode cX7_readHeader 78 = .ok (.aload_n 0, 1) := by decide +kernel
theorem dX7_readHeader_79 : decode cX7_readHeader 79 = .ok (.getfield 23, 3) := by decide +kernel
theorem dX7_readHeader_82 : decode cX7_readHeader 82 = .ok (.iload 4, 2) := by decide +kernel
theorem dX7_readHeader_84 : decode cX7_readHeader 84 = .ok (.aload_n 0, 1) := by decide +kernel
theorem dX7_readHeader_85 : decode cX7_readHeader 85 = .ok (.bipush 8, 2) := by decide +kernel
theorem dX7_readHeader_87 : decode cX7_readHeader 87 = .ok (.invokevirtual 130, 3) := by decide +kernel
theorem dX7_readHeader_90 : decode cX7_readHeader 90 = .ok (.iastore, 1) := by decide +kernel
theorem dX7_readHeader_91 : decode cX7_readHeader 91 = .ok (.iinc 4 1, 3) := by decide +kernel
theorem dX7_readHeader_94 : decode cX7_readHeader 94 = .ok (.goto (-23), 3) := by decide +kernel
theorem dX7_readHeader_97 : decode cX7_readHeader 97 = .ok (.aload_n 0, 1) := by decide +kernel
theorem dX7_readHeader_98 : decode cX7_readHeader 98 = .ok (.iconst 2, 1) := by decide +kernel
theorem dX7_readHeader_99 : decode cX7_readHeader 99 = .ok (.invokevirtual 134, 3) := by decide +kernel
theorem dX7_readHeader_102 : decode cX7_readHeader 102 = .ok (.aload_n 0, 1) := by decide +kernel
theorem dX7_readHeader_103 : decode cX7_readHeader 103 = .ok (.iconst 3, 1) := by decide +kernel
theorem dX7_readHeader_104 : decode cX7_readHeader 104 = .ok (.invokevirtual 134, 3) := by decide +kernel
theorem dX7_readHeader_107 : decode cX7_readHeader 107 = .ok (.aload_n 0, 1) := by decide +kernel
theorem dX7_readHeader_108 : decode cX7_readHeader 108 = .ok (.getfield 117, 3) := by decide +kernel
theorem dX7_readHeader_111 : decode cX7_readHeader 111 = .ok (.ifCond .le 4, 3) := by decide +kernel
theorem dX7_readHeader_114 : decode cX7_readHeader 114 = .ok (.return_, 1) := by decide +kernel
theorem dX7_readHeader_115 : decode cX7_readHeader 115 = .ok (.aload_n 0, 1) := by decide +kernel
theorem dX7_readHeader_116 : decode cX7_readHeader 116 = .ok (.iload_n 1, 1) := by decide +kernel
theorem dX7_readHeader_117 : decode cX7_readHeader 117 = .ok (.putfield 137, 3) := by decide +kernel
theorem dX7_readHeader_120 : decode cX7_readHeader 120 = .ok (.aload_n 0, 1) := by decide +kernel
theorem dX7_readHeader_121 : decode cX7_readHeader 121 = .ok (.iload_n 2, 1) := by decide +kernel
theorem dX7_readHeader_122 : decode cX7_readHeader 122 = .ok (.putfield 140, 3) := by decide +kernel
theorem dX7_readHeader_125 : decode cX7_readHeader 125 = .ok (.aload_n 0, 1) := by decide +kernel
theorem dX7_readHeader_126 : decode cX7_readHeader 126 = .ok (.iload_n 3, 1) := by decide +kernel
theorem dX7_readHeader_127 : decode cX7_readHeader 127 = .ok (.putfield 143, 3) := by decide +kernel
theorem dX7_readHeader_130 : decode cX7_readHeader 130 = .ok (.iconst 0, 1) := by decide +kernel
theorem dX7_readHeader_131 : decode cX7_readHeader 131 = .ok (.istore 4, 2) := by decide +kernel
theorem dX7_readHeader_133 : decode cX7_readHeader 133 = .ok (.iload 4, 2) := by decide +kernel
theorem dX7_readHeader_135 : decode cX7_readHeader 135 = .ok (.bipush 8, 2) := by decide +kernel
theorem dX7_readHeader_137 : decode cX7_readHeader 137 = .ok (.if_icmp .ge 23, 3) := by decide +kernel
theorem dX7_readHeader_140 : decode cX7_readHeader 140 = .ok (.aload_n 0, 1) := by decide +kernel
theorem dX7_readHeader_141 : decode cX7_readHeader 141 = .ok (.getfield 13, 3) := by decide +kernel
theorem dX7_readHeader_144 : decode cX7_readHeader 144 = .ok (.iload 4, 2) := by decide +kernel
theorem dX7_readHeader_146 : decode cX7_readHeader 146 = .ok (.aload_n 0, 1) := by decide +kernel
theorem dX7_readHeader_147 : decode cX7_readHeader 147 = .ok (.getfield 20, 3) := by decide +kernel
theorem dX7_readHeader_150 : decode cX7_readHeader 150 = .ok (.iload 4, 2) := by decide +kernel
theorem dX7_readHeader_152 : decode cX7_readHeader 152 = .ok (.iaload, 1) := by decide +kernel
theorem dX7_readHeader_153 : decode cX7_readHeader 153 = .ok (.iastore, 1) := by decide +kernel
theorem dX7_readHeader_154 : decode cX7_readHeader 154 = .ok (.iinc 4 1, 3) := by decide +kernel
theorem dX7_readHeader_157 : decode cX7_readHeader 157 = .ok (.goto (-24), 3) := by decide +kernel
theorem dX7_readHeader_160 : decode cX7_readHeader 160 = .ok (.iconst 0, 1) := by decide +kernel
theorem dX7_readHeader_161 : decode cX7_readHeader 161 = .ok (.istore 4, 2) := by decide +kernel
theorem dX7_readHeader_163 : decode cX7_readHeader 163 = .ok (.iload 4, 2) := by decide +kernel
theorem dX7_readHeader_165 : decode cX7_readHeader 165 = .ok (.bipush 16, 2) := by decide +kernel
theorem dX7_readHeader_167 : decode cX7_readHeader 167 = .ok (.if_icmp .ge 23, 3) := by decide +kernel
theorem dX7_readHeader_170 : decode cX7_readHeader 170 = .ok (.aload_n 0, 1) := by decide +kernel
theorem dX7_readHeader_171 : decode cX7_readHeader 171 = .ok (.getfield 17, 3) := by decide +kernel
theorem dX7_readHeader_174 : decode cX7_readHeader 174 = .ok (.iload 4, 2) := by decide +kernel
theorem dX7_readHeader_176 : decode cX7_readHeader 176 = .ok (.aload_n 0, 1) := by decide +kernel
theorem dX7_readHeader_177 : decode cX7_readHeader 177 = .ok (.getfield 23, 3) := by decide +kernel
theorem dX7_readHeader_180 : decode cX7_readHeader 180 = .ok (.iload 4, 2) := by decide +kernel
theorem dX7_readHeader_182 : decode cX7_readHeader 182 = .ok (.iaload, 1) := by decide +kernel
theorem dX7_readHeader_183 : decode cX7_readHeader 183 = .ok (.iastore, 1) := by decide +kernel
theorem dX7_readHeader_184 : decode cX7_readHeader 184 = .ok (.iinc 4 1, 3) := by decide +kernel
theorem dX7_readHeader_187 : decode cX7_readHeader 187 = .ok (.goto (-24), 3) := by decide +kernel
theorem dX7_readHeader_190 : decode cX7_readHeader 190 = .ok (.iconst 0, 1) := by decide +kernel
theorem dX7_readHeader_191 : decode cX7_readHeader 191 = .ok (.istore 4, 2) := by decide +kernel
theorem dX7_readHeader_193 : decode cX7_readHeader 193 = .ok (.iload 4, 2) := by decide +kernel
theorem dX7_readHeader_195 : decode cX7_readHeader 195 = .ok (.iconst 2, 1) := by decide +kernel
theorem dX7_readHeader_196 : decode cX7_readHeader 196 = .ok (.if_icmp .ge 143, 3) := by decide +kernel
theorem dX7_readHeader_199 : decode cX7_readHeader 199 = .ok (.iconst 0, 1) := by decide +kernel
theorem dX7_readHeader_200 : decode cX7_readHeader 200 = .ok (.istore 5, 2) := by decide +kernel
theorem dX7_readHeader_202 : decode cX7_readHeader 202 = .ok (.iload 5, 2) := by decide +kernel
theorem dX7_readHeader_204 : decode cX7_readHeader 204 = .ok (.sipush 256, 3) := by decide +kernel
theorem dX7_readHeader_207 : decode cX7_readHeader 207 = .ok (.if_icmp .ge 66, 3) := by decide +kernel
theorem dX7_readHeader_210 : decode cX7_readHeader 210 = .ok (.aload_n 0, 1) := by decide +kernel
theorem dX7_readHeader_211 : decode cX7_readHeader 211 = .ok (.getfield 26, 3) := by decide +kernel
theorem dX7_readHeader_214 : decode cX7_readHeader 214 = .ok (.sipush 512, 3) := by decide +kernel
theorem dX7_readHeader_217 : decode cX7_readHeader 217 = .ok (.sipush 256, 3) := by decide +kernel
theorem dX7_readHeader_220 : decode cX7_readHeader 220 = .ok (.iload 4, 2) := by decide +kernel
theorem dX7_readHeader_222 : decode cX7_readHeader 222 = .ok (.imul, 1) := by decide +kernel
theorem dX7_readHeader_223 : decode cX7_readHeader 223 = .ok (.iadd, 1) := by decide +kernel
theorem dX7_readHeader_224 : decode cX7_readHeader 224 = .ok (.iload 5, 2) := by decide +kernel
theorem dX7_readHeader_226 : decode cX7_readHeader 226 = .ok (.iadd, 1) := by decide +kernel
theorem dX7_readHeader_227 : decode cX7_readHeader 227 = .ok (.iaload, 1) := by decide +kernel
theorem dX7_readHeader_228 : decode cX7_readHeader 228 = .ok (.istore 6, 2) := by decide +kernel
theorem dX7_readHeader_230 : decode cX7_readHeader 230 = .ok (.aload_n 0, 1) := by decide +kernel
