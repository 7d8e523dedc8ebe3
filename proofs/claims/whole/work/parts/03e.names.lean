theorem dX3_smooth_36 : decode cX3_smooth 36 = .ok (.aload_n 0, 1) := by decide +kernel
theorem dX3_smooth_37 : decode cX3_smooth 37 = .ok (.aload_n 1, 1) := by decide +kernel
theorem dX3_smooth_38 : decode cX3_smooth 38 = .ok (.iload 4, 2) := by decide +kernel
theorem dX3_smooth_40 : decode cX3_smooth 40 = .ok (.iload_n 3, 1) := by decide +kernel
theorem dX3_smooth_41 : decode cX3_smooth 41 = .ok (.iload_n 2, 1) := by decide +kernel
theorem dX3_smooth_42 : decode cX3_smooth 42 = .ok (.invokevirtual 49, 3) := by decide +kernel
theorem dX3_smooth_45 : decode cX3_smooth 45 = .ok (.iinc 4 1, 3) := by decide +kernel
theorem dX3_smooth_48 : decode cX3_smooth 48 = .ok (.goto (-35), 3) := by decide +kernel
theorem dX3_smooth_51 : decode cX3_smooth 51 = .ok (.iinc 3 1, 3) := by decide +kernel
theorem dX3_smooth_54 : decode cX3_smooth 54 = .ok (.goto (-52), 3) := by decide +kernel
theorem dX3_smooth_57 : decode cX3_smooth 57 = .ok (.return_, 1) := by decide +kernel
set_option maxRecDepth 100000 in
theorem ggX3_smoothBlock_X3_smoothUpright : GoodIn wsX3_smoothBlock wsX3_smoothUpright := goodIn_r _ [5, 6, 7, 8, 9, 4, 10, 11, 12, 13, 14, 15, 16, 17, 18, 19, 20, 21, 22, 23, 24, 25, 26, 27, 51, 52, 53] rfl (by decide +kernel)
set_option maxRecDepth 100000 in
theorem gX3_smoothBlock_X3_smoothUpright : GoodIn wsX3_smoothBlock (wsV RX3 53 RX3 yX3_smoothUpright wsX3_smoothUpright) := goodIn_app (goodIn_of _ (by decide +kernel)) ggX3_smoothBlock_X3_smoothUpright
set_option maxRecDepth 100000 in
theorem ggX3_smoothBlock_X3_smoothLevel : GoodIn wsX3_smoothBlock wsX3_smoothLevel := goodIn_r _ [31, 6, 7, 8, 9, 4, 10, 11, 12, 13, 14, 15, 16, 17, 18, 19, 20, 21, 22, 23, 24, 25, 26, 27, 51, 52, 53] rfl (by decide +kernel)
set_option maxRecDepth 100000 in
theorem gX3_smoothBlock_X3_smoothLevel : GoodIn wsX3_smoothBlock (wsV RX3 57 RX3 yX3_smoothLevel wsX3_smoothLevel) := goodIn_app (goodIn_of _ (by decide +kernel)) ggX3_smoothBlock_X3_smoothLevel
set_option maxRecDepth 100000 in
theorem ggX3_smoothBlock_X3_isThereNotCoded : GoodIn wsX3_smoothBlock wsX3_isThereNotCoded := goodIn_r _ [34, 35, 36, 37, 38, 39, 40, 41, 42, 43, 44, 45, 46, 47, 48, 49, 50, 54, 55, 56, 57, 58, 59, 60, 61, 62, 63, 64, 65] rfl (by decide +kernel)
set_option maxRecDepth 100000 in
theorem gX3_smoothBlock_X3_isThereNotCoded : GoodIn wsX3_smoothBlock (va_wsS RX3 60 yX3_isThereNotCoded wsX3_isThereNotCoded) := goodIn_app (goodIn_of _ (by decide +kernel)) ggX3_smoothBlock_X3_isThereNotCoded
theorem dX3_smoothBlock_0 : decode cX3_smoothBlock 0 = .ok (.iload_n 2, 1) := by decide +kernel
theorem dX3_smoothBlock_1 : decode cX3_smoothBlock 1 = .ok (.bipush 8, 2) := by decide +kernel
theorem dX3_smoothBlock_3 : decode cX3_smoothBlock 3 = .ok (.imul, 1) := by decide +kernel
theorem dX3_smoothBlock_4 : decode cX3_smoothBlock 4 = .ok (.istore 5, 2) := by decide +kernel
theorem dX3_smoothBlock_6 : decode cX3_smoothBlock 6 = .ok (.iload_n 3, 1) := by decide +kernel
theorem dX3_smoothBlock_7 : decode cX3_smoothBlock 7 = .ok (.bipush 8, 2) := by decide +kernel
theorem dX3_smoothBlock_9 : decode cX3_smoothBlock 9 = .ok (.imul, 1) := by decide +kernel
theorem dX3_smoothBlock_10 : decode cX3_smoothBlock 10 = .ok (.istore 6, 2) := by decide +kernel
theorem dX3_smoothBlock_12 : decode cX3_smoothBlock 12 = .ok (.iload_n 2, 1) := by decide +kernel
theorem dX3_smoothBlock_13 : decode cX3_smoothBlock 13 = .ok (.ifCond .le 13, 3) := by decide +kernel
theorem dX3_smoothBlock_16 : decode cX3_smoothBlock 16 = .ok (.aload_n 0, 1) := by decide +kernel
theorem dX3_smoothBlock_17 : decode cX3_smoothBlock 17 = .ok (.iload 5, 2) := by decide +kernel
theorem dX3_smoothBlock_19 : decode cX3_smoothBlock 19 = .ok (.iload 6, 2) := by decide +kernel
theorem dX3_smoothBlock_21 : decode cX3_smoothBlock 21 = .ok (.iload 4, 2) := by decide +kernel
theorem dX3_smoothBlock_23 : decode cX3_smoothBlock 23 = .ok (.invokevirtual 53, 3) := by decide +kernel
theorem dX3_smoothBlock_26 : decode cX3_smoothBlock 26 = .ok (.iload_n 3, 1) := by decide +kernel
theorem dX3_smoothBlock_27 : decode cX3_smoothBlock 27 = .ok (.ifCond .le 13, 3) := by decide +kernel
theorem dX3_smoothBlock_30 : decode cX3_smoothBlock 30 = .ok (.aload_n 0, 1) := by decide +kernel
theorem dX3_smoothBlock_31 : decode cX3_smoothBlock 31 = .ok (.iload 5, 2) := by decide +kernel
theorem dX3_smoothBlock_33 : decode cX3_smoothBlock 33 = .ok (.iload 6, 2) := by decide +kernel
theorem dX3_smoothBlock_35 : decode cX3_smoothBlock 35 = .ok (.iload 4, 2) := by decide +kernel
theorem dX3_smoothBlock_37 : decode cX3_smoothBlock 37 = .ok (.invokevirtual 57, 3) := by decide +kernel
theorem dX3_smoothBlock_40 : decode cX3_smoothBlock 40 = .ok (.aload_n 1, 1) := by decide +kernel
theorem dX3_smoothBlock_41 : decode cX3_smoothBlock 41 = .ok (.iload_n 2, 1) := by decide +kernel
theorem dX3_smoothBlock_42 : decode cX3_smoothBlock 42 = .ok (.iconst 1, 1) := by decide +kernel
theorem dX3_smoothBlock_43 : decode cX3_smoothBlock 43 = .ok (.iadd, 1) := by decide +kernel
theorem dX3_smoothBlock_44 : decode cX3_smoothBlock 44 = .ok (.iload_n 3, 1) := by decide +kernel
theorem dX3_smoothBlock_45 : decode cX3_smoothBlock 45 = .ok (.invokestatic 60, 3) := by decide +kernel
theorem dX3_smoothBlock_48 : decode cX3_smoothBlock 48 = .ok (.ifCond .eq 16, 3) := by decide +kernel
theorem dX3_smoothBlock_51 : decode cX3_smoothBlock 51 = .ok (.aload_n 0, 1) := by decide +kernel
theorem dX3_smoothBlock_52 : decode cX3_smoothBlock 52 = .ok (.iload 5, 2) := by decide +kernel
theorem dX3_smoothBlock_54 : decode cX3_smoothBlock 54 = .ok (.bipush 8, 2) := by decide +kernel
theorem dX3_smoothBlock_56 : decode cX3_smoothBlock 56 = .ok (.iadd, 1) := by decide +kernel
theorem dX3_smoothBlock_57 : decode cX3_smoothBlock 57 = .ok (.iload 6, 2) := by decide +kernel
theorem dX3_smoothBlock_59 : decode cX3_smoothBlock 59 = .ok (.iload 4, 2) := by decide +kernel
theorem dX3_smoothBlock_61 : decode cX3_smoothBlock 61 = .ok (.invokevirtual 53, 3) := by decide +kernel
theorem dX3_smoothBlock_64 : decode cX3_smoothBlock 64 = .ok (.aload_n 1, 1) := by decide +kernel
theorem dX3_smoothBlock_65 : decode cX3_smoothBlock 65 = .ok (.iload_n 2, 1) := by decide +kernel
theorem dX3_smoothBlock_66 : decode cX3_smoothBlock 66 = .ok (.iload_n 3, 1) := by decide +kernel
theorem dX3_smoothBlock_67 : decode cX3_smoothBlock 67 = .ok (.iconst 1, 1) := by decide +kernel
theorem dX3_smoothBlock_68 : decode cX3_smoothBlock 68 = .ok (.iadd, 1) := by decide +kernel
theorem dX3_smoothBlock_69 : decode cX3_smoothBlock 69 = .ok (.invokestatic 60, 3) := by decide +kernel
theorem dX3_smoothBlock_72 : decode cX3_smoothBlock 72 = .ok (.ifCond .eq 16, 3) := by decide +kernel
theorem dX3_smoothBlock_75 : decode cX3_smoothBlock 75 = .ok (.aload_n 0, 1) := by decide +kernel
theorem dX3_smoothBlock_76 : decode cX3_smoothBlock 76 = .ok (.iload 5, 2) := by decide +kernel
theorem dX3_smoothBlock_78 : decode cX3_smoothBlock 78 = .ok (.iload 6, 2) := by decide +kernel
theorem dX3_smoothBlock_80 : decode cX3_smoothBlock 80 = .ok (.bipush 8, 2) := by decide +kernel
theorem dX3_smoothBlock_82 : decode cX3_smoothBlock 82 = .ok (.iadd, 1) := by decide +kernel
theorem dX3_smoothBlock_83 : decode cX3_smoothBlock 83 = .ok (.iload 4, 2) := by decide +kernel
theorem dX3_smoothBlock_85 : decode cX3_smoothBlock 85 = .ok (.invokevirtual 57, 3) := by decide +kernel
theorem dX3_smoothBlock_88 : decode cX3_smoothBlock 88 = .ok (.return_, 1) := by decide +kernel
set_option maxRecDepth 100000 in
theorem ggX3_isThereNotCoded_X0_has : GoodIn wsX3_isThereNotCoded wsX0_has := goodIn_r _ [5, 6, 7, 17, 18, 19, 20, 21, 22, 23, 24, 25, 26, 27, 28] rfl (by decide +kernel)
set_option maxRecDepth 100000 in
theorem gX3_isThereNotCoded_X0_has : GoodIn wsX3_isThereNotCoded (wsV RX3 64 RX0 yX0_has wsX0_has) := goodIn_app (goodIn_of _ (by decide +kernel)) ggX3_isThereNotCoded_X0_has
set_option maxRecDepth 100000 in
theorem ggX3_isThereNotCoded_X0_index : GoodIn wsX3_isThereNotCoded wsX0_index := goodIn_r _ [11, 6, 17, 18, 19, 20, 21, 22, 23, 24, 25, 26, 27, 28] rfl (by decide +kernel)
set_option maxRecDepth 100000 in
theorem gX3_isThereNotCoded_X0_index : GoodIn wsX3_isThereNotCoded (wsV RX3 41 RX0 yX0_index wsX0_index) := goodIn_app (goodIn_of _ (by decide +kernel)) ggX3_isThereNotCoded_X0_index
set_option maxRecDepth 100000 in
theorem ggX3_isThereNotCoded_X0_isCoded : GoodIn wsX3_isThereNotCoded wsX0_isCoded := goodIn_r _ [15, 16, 17, 18, 19, 20, 21, 22, 23, 24, 25, 26, 27, 28] rfl (by decide +kernel)
set_option maxRecDepth 100000 in
theorem gX3_isThereNotCoded_X0_isCoded : GoodIn wsX3_isThereNotCoded (wsV RX3 45 RX0 yX0_isCoded wsX0_isCoded) := goodIn_app (goodIn_of _ (by decide +kernel)) ggX3_isThereNotCoded_X0_isCoded
theorem dX3_isThereNotCoded_0 : decode cX3_isThereNotCoded 0 = .ok (.aload_n 0, 1) := by decide +kernel
theorem dX3_isThereNotCoded_1 : decode cX3_isThereNotCoded 1 = .ok (.iload_n 1, 1) := by decide +kernel
theorem dX3_isThereNotCoded_2 : decode cX3_isThereNotCoded 2 = .ok (.iload_n 2, 1) := by decide +kernel
theorem dX3_isThereNotCoded_3 : decode cX3_isThereNotCoded 3 = .ok (.invokevirtual 64, 3) := by decide +kernel
theorem dX3_isThereNotCoded_6 : decode cX3_isThereNotCoded 6 = .ok (.ifCond .eq 20, 3) := by decide +kernel
theorem dX3_isThereNotCoded_9 : decode cX3_isThereNotCoded 9 = .ok (.aload_n 0, 1) := by decide +kernel
theorem dX3_isThereNotCoded_10 : decode cX3_isThereNotCoded 10 = .ok (.aload_n 0, 1) := by decide +kernel
theorem dX3_isThereNotCoded_11 : decode cX3_isThereNotCoded 11 = .ok (.iload_n 1, 1) := by decide +kernel
theorem dX3_isThereNotCoded_12 : decode cX3_isThereNotCoded 12 = .ok (.iload_n 2, 1) := by decide +kernel
theorem dX3_isThereNotCoded_13 : decode cX3_isThereNotCoded 13 = .ok (.invokevirtual 41, 3) := by decide +kernel
theorem dX3_isThereNotCoded_16 : decode cX3_isThereNotCoded 16 = .ok (.invokevirtual 45, 3) := by decide +kernel
theorem dX3_isThereNotCoded_19 : decode cX3_isThereNotCoded 19 = .ok (.ifCond .ne 7, 3) := by decide +kernel
theorem dX3_isThereNotCoded_22 : decode cX3_isThereNotCoded 22 = .ok (.iconst 1, 1) := by decide +kernel
theorem dX3_isThereNotCoded_23 : decode cX3_isThereNotCoded 23 = .ok (.goto 4, 3) := by decide +kernel
theorem dX3_isThereNotCoded_26 : decode cX3_isThereNotCoded 26 = .ok (.iconst 0, 1) := by decide +kernel
theorem dX3_isThereNotCoded_27 : decode cX3_isThereNotCoded 27 = .ok (.ireturn, 1) := by decide +kernel
set_option maxRecDepth 100000 in
theorem ggX3_smoothUpright_X3_smoothLine : GoodIn wsX3_smoothUpright wsX3_smoothLine := goodIn_r _ [6, 7, 8, 9, 5, 10, 11, 12, 13, 14, 15, 16, 17, 18, 19, 20, 21, 22, 23, 24, 25, 26] rfl (by decide +kernel)
set_option maxRecDepth 100000 in
theorem gX3_smoothUpright_X3_smoothLine : GoodIn wsX3_smoothUpright (wsV RX3 68 RX3 yX3_smoothLine wsX3_smoothLine) := goodIn_app (goodIn_of _ (by decide +kernel)) ggX3_smoothUpright_X3_smoothLine
theorem dX3_smoothUpright_0 : decode cX3_smoothUpright 0 = .ok (.iconst 0, 1) := by decide +kernel
theorem dX3_smoothUpright_1 : decode cX3_smoothUpright 1 = .ok (.istore 4, 2) := by decide +kernel
theorem dX3_smoothUpright_3 : decode cX3_smoothUpright 3 = .ok (.iload 4, 2) := by decide +kernel
theorem dX3_smoothUpright_5 : decode cX3_smoothUpright 5 = .ok (.bipush 8, 2) := by decide +kernel
theorem dX3_smoothUpright_7 : decode cX3_smoothUpright 7 = .ok (.if_icmp .ge 26, 3) := by decide +kernel
theorem dX3_smoothUpright_10 : decode cX3_smoothUpright 10 = .ok (.aload_n 0, 1) := by decide +kernel
theorem dX3_smoothUpright_11 : decode cX3_smoothUpright 11 = .ok (.iload_n 2, 1) := by decide +kernel
theorem dX3_smoothUpright_12 : decode cX3_smoothUpright 12 = .ok (.iload 4, 2) := by decide +kernel
theorem dX3_smoothUpright_14 : decode cX3_smoothUpright 14 = .ok (.iadd, 1) := by decide +kernel
theorem dX3_smoothUpright_15 : decode cX3_smoothUpright 15 = .ok (.aload_n 0, 1) := by decide +kernel
theorem dX3_smoothUpright_16 : decode cX3_smoothUpright 16 = .ok (.getfield 15, 3) := by decide +kernel
theorem dX3_smoothUpright_19 : decode cX3_smoothUpright 19 = .ok (.imul, 1) := by decide +kernel
theorem dX3_smoothUpright_20 : decode cX3_smoothUpright 20 = .ok (.iload_n 1, 1) := by decide +kernel
theorem dX3_smoothUpright_21 : decode cX3_smoothUpright 21 = .ok (.iadd, 1) := by decide +kernel
theorem dX3_smoothUpright_22 : decode cX3_smoothUpright 22 = .ok (.iconst 1, 1) := by decide +kernel
theorem dX3_smoothUpright_23 : decode cX3_smoothUpright 23 = .ok (.iload_n 3, 1) := by decide +kernel
theorem dX3_smoothUpright_24 : decode cX3_smoothUpright 24 = .ok (.invokevirtual 68, 3) := by decide +kernel
theorem dX3_smoothUpright_27 : decode cX3_smoothUpright 27 = .ok (.iinc 4 1, 3) := by decide +kernel
theorem dX3_smoothUpright_30 : decode cX3_smoothUpright 30 = .ok (.goto (-27), 3) := by decide +kernel
theorem dX3_smoothUpright_33 : decode cX3_smoothUpright 33 = .ok (.return_, 1) := by decide +kernel
set_option maxRecDepth 100000 in
theorem ggX3_smoothLevel_X3_smoothLine : GoodIn wsX3_smoothLevel wsX3_smoothLine := goodIn_r _ [6, 7, 8, 9, 5, 10, 11, 12, 13, 14, 15, 16, 17, 18, 19, 20, 21, 22, 23, 24, 25, 26] rfl (by decide +kernel)
set_option maxRecDepth 100000 in
theorem gX3_smoothLevel_X3_smoothLine : GoodIn wsX3_smoothLevel (wsV RX3 68 RX3 yX3_smoothLine wsX3_smoothLine) := goodIn_app (goodIn_of _ (by decide +kernel)) ggX3_smoothLevel_X3_smoothLine
theorem dX3_smoothLevel_0 : decode cX3_smoothLevel 0 = .ok (.iconst 0, 1) := by decide +kernel
theorem dX3_smoothLevel_1 : decode cX3_smoothLevel 1 = .ok (.istore 4, 2) := by decide +kernel
theorem dX3_smoothLevel_3 : decode cX3_smoothLevel 3 = .ok (.iload 4, 2) := by decide +kernel
theorem dX3_smoothLevel_5 : decode cX3_smoothLevel 5 = .ok (.bipush 8, 2) := by decide +kernel
theorem dX3_smoothLevel_7 : decode cX3_smoothLevel 7 = .ok (.if_icmp .ge 29, 3) := by decide +kernel
theorem dX3_smoothLevel_10 : decode cX3_smoothLevel 10 = .ok (.aload_n 0, 1) := by decide +kernel
theorem dX3_smoothLevel_11 : decode cX3_smoothLevel 11 = .ok (.iload_n 2, 1) := by decide +kernel
theorem dX3_smoothLevel_12 : decode cX3_smoothLevel 12 = .ok (.aload_n 0, 1) := by decide +kernel
theorem dX3_smoothLevel_13 : decode cX3_smoothLevel 13 = .ok (.getfield 15, 3) := by decide +kernel
theorem dX3_smoothLevel_16 : decode cX3_smoothLevel 16 = .ok (.imul, 1) := by decide +kernel
theorem dX3_smoothLevel_17 : decode cX3_smoothLevel 17 = .ok (.iload_n 1, 1) := by decide +kernel
theorem dX3_smoothLevel_18 : decode cX3_smoothLevel 18 = .ok (.iadd, 1) := by decide +kernel
theorem dX3_smoothLevel_19 : decode cX3_smoothLevel 19 = .ok (.iload 4, 2) := by decide +kernel
theorem dX3_smoothLevel_21 : decode cX3_smoothLevel 21 = .ok (.iadd, 1) := by decide +kernel
theorem dX3_smoothLevel_22 : decode cX3_smoothLevel 22 = .ok (.aload_n 0, 1) := by decide +kernel
theorem dX3_smoothLevel_23 : decode cX3_smoothLevel 23 = .ok (.getfield 15, 3) := by decide +kernel
theorem dX3_smoothLevel_26 : decode cX3_smoothLevel 26 = .ok (.iload_n 3, 1) := by decide +kernel
theorem dX3_smoothLevel_27 : decode cX3_smoothLevel 27 = .ok (.invokevirtual 68, 3) := by decide +kernel
theorem dX3_smoothLevel_30 : decode cX3_smoothLevel 30 = .ok (.iinc 4 1, 3) := by decide +kernel
theorem dX3_smoothLevel_33 : decode cX3_smoothLevel 33 = .ok (.goto (-30), 3) := by decide +kernel
theorem dX3_smoothLevel_36 : decode cX3_smoothLevel 36 = .ok (.return_, 1) := by decide +kernel
set_option maxRecDepth 100000 in
theorem ggX3_smoothLine_X3_softened : GoodIn wsX3_smoothLine wsX3_softened := goodIn_r _ [5, 6, 7, 8, 9] rfl (by decide +kernel)
set_option maxRecDepth 100000 in
theorem gX3_smoothLine_X3_softened : GoodIn wsX3_smoothLine (va_wsS RX3 71 yX3_softened wsX3_softened) := goodIn_app (goodIn_of _ (by decide +kernel)) ggX3_smoothLine_X3_softened
set_option maxRecDepth 100000 in
theorem ggX3_smoothLine_X6_bring : GoodIn wsX3_smoothLine wsX6_bring := goodIn_r _ [12, 13, 14, 8, 15, 16, 17, 18] rfl (by decide +kernel)
set_option maxRecDepth 100000 in
theorem gX3_smoothLine_X6_bring_n22 : GoodIn wsX3_smoothLine (wsX6_bring) := ggX3_smoothLine_X6_bring
theorem dX3_smoothLine_0 : decode cX3_smoothLine 0 = .ok (.aload_n 0, 1) := by decide +kernel
theorem dX3_smoothLine_1 : decode cX3_smoothLine 1 = .ok (.getfield 9, 3) := by decide +kernel
theorem dX3_smoothLine_4 : decode cX3_smoothLine 4 = .ok (.iload_n 1, 1) := by decide +kernel
theorem dX3_smoothLine_5 : decode cX3_smoothLine 5 = .ok (.iconst 2, 1) := by decide +kernel
theorem dX3_smoothLine_6 : decode cX3_smoothLine 6 = .ok (.iload_n 2, 1) := by decide +kernel
theorem dX3_smoothLine_7 : decode cX3_smoothLine 7 = .ok (.imul, 1) := by decide +kernel
theorem dX3_smoothLine_8 : decode cX3_smoothLine 8 = .ok (.isub, 1) := by decide +kernel
theorem dX3_smoothLine_9 : decode cX3_smoothLine 9 = .ok (.iaload, 1) := by decide +kernel
theorem dX3_smoothLine_10 : decode cX3_smoothLine 10 = .ok (.istore 4, 2) := by decide +kernel
theorem dX3_smoothLine_12 : decode cX3_smoothLine 12 = .ok (.aload_n 0, 1) := by decide +kernel
theorem dX3_smoothLine_13 : decode cX3_smoothLine 13 = .ok (.getfield 9, 3) := by decide +kernel
theorem dX3_smoothLine_16 : decode cX3_smoothLine 16 = .ok (.iload_n 1, 1) := by decide +kernel
theorem dX3_smoothLine_17 : decode cX3_smoothLine 17 = .ok (.iload_n 2, 1) := by decide +kernel
theorem dX3_smoothLine_18 : decode cX3_smoothLine 18 = .ok (.isub, 1) := by decide +kernel
theorem dX3_smoothLine_19 : decode cX3_smoothLine 19 = .ok (.iaload, 1) := by decide +kernel
theorem dX3_smoothLine_20 : decode cX3_smoothLine 20 = .ok (.istore 5, 2) := by decide +kernel
theorem dX3_smoothLine_22 : decode cX3_smoothLine 22 = .ok (.aload_n 0, 1) := by decide +kernel
theorem dX3_smoothLine_23 : decode cX3_smoothLine 23 = .ok (.getfield 9, 3) := by decide +kernel
theorem dX3_smoothLine_26 : decode cX3_smoothLine 26 = .ok (.iload_n 1, 1) := by decide +kernel
theorem dX3_smoothLine_27 : decode cX3_smoothLine 27 = .ok (.iaload, 1) := by decide +kernel
theorem dX3_smoothLine_28 : decode cX3_smoothLine 28 = .ok (.istore 6, 2) := by decide +kernel
theorem dX3_smoothLine_30 : decode cX3_smoothLine 30 = .ok (.aload_n 0, 1) := by decide +kernel
theorem dX3_smoothLine_31 : decode cX3_smoothLine 31 = .ok (.getfield 9, 3) := by decide +kernel
theorem dX3_smoothLine_34 : decode cX3_smoothLine 34 = .ok (.iload_n 1, 1) := by decide +kernel
theorem dX3_smoothLine_35 : decode cX3_smoothLine 35 = .ok (.iload_n 2, 1) := by decide +kernel
theorem dX3_smoothLine_36 : decode cX3_smoothLine 36 = .ok (.iadd, 1) := by decide +kernel
theorem dX3_smoothLine_37 : decode cX3_smoothLine 37 = .ok (.iaload, 1) := by decide +kernel
theorem dX3_smoothLine_38 : decode cX3_smoothLine 38 = .ok (.istore 7, 2) := by decide +kernel
theorem dX3_smoothLine_40 : decode cX3_smoothLine 40 = .ok (.iload 4, 2) := by decide +kernel
theorem dX3_smoothLine_42 : decode cX3_smoothLine 42 = .ok (.iconst 3, 1) := by decide +kernel
theorem dX3_smoothLine_43 : decode cX3_smoothLine 43 = .ok (.iload 5, 2) := by decide +kernel
theorem dX3_smoothLine_45 : decode cX3_smoothLine 45 = .ok (.imul, 1) := by decide +kernel
theorem dX3_smoothLine_46 : decode cX3_smoothLine 46 = .ok (.isub, 1) := by decide +kernel
theorem dX3_smoothLine_47 : decode cX3_smoothLine 47 = .ok (.iconst 3, 1) := by decide +kernel
theorem dX3_smoothLine_48 : decode cX3_smoothLine 48 = .ok (.iload 6, 2) := by decide +kernel
theorem dX3_smoothLine_50 : decode cX3_smoothLine 50 = .ok (.imul, 1) := by decide +kernel
theorem dX3_smoothLine_51 : decode cX3_smoothLine 51 = .ok (.iadd, 1) := by decide +kernel
theorem dX3_smoothLine_52 : decode cX3_smoothLine 52 = .ok (.iload 7, 2) := by decide +kernel
theorem dX3_smoothLine_54 : decode cX3_smoothLine 54 = .ok (.isub, 1) := by decide +kernel
theorem dX3_smoothLine_55 : decode cX3_smoothLine 55 = .ok (.iconst 4, 1) := by decide +kernel
theorem dX3_smoothLine_56 : decode cX3_smoothLine 56 = .ok (.iadd, 1) := by decide +kernel
theorem dX3_smoothLine_57 : decode cX3_smoothLine 57 = .ok (.iconst 3, 1) := by decide +kernel
theorem dX3_smoothLine_58 : decode cX3_smoothLine 58 = .ok (.ishr, 1) := by decide +kernel
theorem dX3_smoothLine_59 : decode cX3_smoothLine 59 = .ok (.iload_n 3, 1) := by decide +kernel
theorem dX3_smoothLine_60 : decode cX3_smoothLine 60 = .ok (.invokestatic 71, 3) := by decide +kernel
theorem dX3_smoothLine_63 : decode cX3_smoothLine 63 = .ok (.istore 8, 2) := by decide +kernel
theorem dX3_smoothLine_65 : decode cX3_smoothLine 65 = .ok (.aload_n 0, 1) := by decide +kernel
theorem dX3_smoothLine_66 : decode cX3_smoothLine 66 = .ok (.getfield 9, 3) := by decide +kernel
theorem dX3_smoothLine_69 : decode cX3_smoothLine 69 = .ok (.iload_n 1, 1) := by decide +kernel
theorem dX3_smoothLine_70 : decode cX3_smoothLine 70 = .ok (.iload_n 2, 1) := by decide +kernel
theorem dX3_smoothLine_71 : decode cX3_smoothLine 71 = .ok (.isub, 1) := by decide +kernel
theorem dX3_smoothLine_72 : decode cX3_smoothLine 72 = .ok (.iload 5, 2) := by decide +kernel
theorem dX3_smoothLine_74 : decode cX3_smoothLine 74 = .ok (.iload 8, 2) := by decide +kernel
theorem dX3_smoothLine_76 : decode cX3_smoothLine 76 = .ok (.iadd, 1) := by decide +kernel
theorem dX3_smoothLine_77 : decode cX3_smoothLine 77 = .ok (.iconst 0, 1) := by decide +kernel
theorem dX3_smoothLine_78 : decode cX3_smoothLine 78 = .ok (.sipush 255, 3) := by decide +kernel
theorem dX3_smoothLine_81 : decode cX3_smoothLine 81 = .ok (.invokestatic 22, 3) := by decide +kernel
theorem dX3_smoothLine_84 : decode cX3_smoothLine 84 = .ok (.iastore, 1) := by decide +kernel
theorem dX3_smoothLine_85 : decode cX3_smoothLine 85 = .ok (.aload_n 0, 1) := by decide +kernel
theorem dX3_smoothLine_86 : decode cX3_smoothLine 86 = .ok (.getfield 9, 3) := by decide +kernel
theorem dX3_smoothLine_89 : decode cX3_smoothLine 89 = .ok (.iload_n 1, 1) := by decide +kernel
theorem dX3_smoothLine_90 : decode cX3_smoothLine 90 = .ok (.iload 6, 2) := by decide +kernel
theorem dX3_smoothLine_92 : decode cX3_smoothLine 92 = .ok (.iload 8, 2) := by decide +kernel
theorem dX3_smoothLine_94 : decode cX3_smoothLine 94 = .ok (.isub, 1) := by decide +kernel
theorem dX3_smoothLine_95 : decode cX3_smoothLine 95 = .ok (.iconst 0, 1) := by decide +kernel
theorem dX3_smoothLine_96 : decode cX3_smoothLine 96 = .ok (.sipush 255, 3) := by decide +kernel
theorem dX3_smoothLine_99 : decode cX3_smoothLine 99 = .ok (.invokestatic 22, 3) := by decide +kernel
theorem dX3_smoothLine_102 : decode cX3_smoothLine 102 = .ok (.iastore, 1) := by decide +kernel
theorem dX3_smoothLine_103 : decode cX3_smoothLine 103 = .ok (.return_, 1) := by decide +kernel
theorem dX3_softened_0 : decode cX3_softened 0 = .ok (.iload_n 0, 1) := by decide +kernel
theorem dX3_softened_1 : decode cX3_softened 1 = .ok (.invokestatic 74, 3) := by decide +kernel
theorem dX3_softened_4 : decode cX3_softened 4 = .ok (.istore_n 2, 1) := by decide +kernel
theorem dX3_softened_5 : decode cX3_softened 5 = .ok (.iload_n 2, 1) := by decide +kernel
theorem dX3_softened_6 : decode cX3_softened 6 = .ok (.iload_n 1, 1) := by decide +kernel
theorem dX3_softened_7 : decode cX3_softened 7 = .ok (.if_icmp .ge 5, 3) := by decide +kernel
theorem dX3_softened_10 : decode cX3_softened 10 = .ok (.iload_n 0, 1) := by decide +kernel
theorem dX3_softened_11 : decode cX3_softened 11 = .ok (.ireturn, 1) := by decide +kernel
theorem dX3_softened_12 : decode cX3_softened 12 = .ok (.iload_n 2, 1) := by decide +kernel
theorem dX3_softened_13 : decode cX3_softened 13 = .ok (.iconst 2, 1) := by decide +kernel
theorem dX3_softened_14 : decode cX3_softened 14 = .ok (.iload_n 1, 1) := by decide +kernel
theorem dX3_softened_15 : decode cX3_softened 15 = .ok (.imul, 1) := by decide +kernel
theorem dX3_softened_16 : decode cX3_softened 16 = .ok (.if_icmp .ge 21, 3) := by decide +kernel
theorem dX3_softened_19 : decode cX3_softened 19 = .ok (.iload_n 0, 1) := by decide +kernel
theorem dX3_softened_20 : decode cX3_softened 20 = .ok (.ifCond .ge 11, 3) := by decide +kernel
theorem dX3_softened_23 : decode cX3_softened 23 = .ok (.iload_n 2, 1) := by decide +kernel
theorem dX3_softened_24 : decode cX3_softened 24 = .ok (.iconst 2, 1) := by decide +kernel
theorem dX3_softened_25 : decode cX3_softened 25 = .ok (.iload_n 1, 1) := by decide +kernel
theorem dX3_softened_26 : decode cX3_softened 26 = .ok (.imul, 1) := by decide +kernel
theorem dX3_softened_27 : decode cX3_softened 27 = .ok (.isub, 1) := by decide +kernel
theorem dX3_softened_28 : decode cX3_softened 28 = .ok (.goto 8, 3) := by decide +kernel
theorem dX3_softened_31 : decode cX3_softened 31 = .ok (.iconst 2, 1) := by decide +kernel
theorem dX3_softened_32 : decode cX3_softened 32 = .ok (.iload_n 1, 1) := by decide +kernel
theorem dX3_softened_33 : decode cX3_softened 33 = .ok (.imul, 1) := by decide +kernel
theorem dX3_softened_34 : decode cX3_softened 34 = .ok (.iload_n 2, 1) := by decide +kernel
theorem dX3_softened_35 : decode cX3_softened 35 = .ok (.isub, 1) := by decide +kernel
theorem dX3_softened_36 : decode cX3_softened 36 = .ok (.ireturn, 1) := by decide +kernel
theorem dX3_softened_37 : decode cX3_softened 37 = .ok (.iconst 0, 1) := by decide +kernel
theorem dX3_softened_38 : decode cX3_softened 38 = .ok (.ireturn, 1) := by decide +kernel
theorem dX4_init_0 : decode cX4_init 0 = .ok (.aload_n 0, 1) := by decide +kernel
theorem dX4_init_1 : decode cX4_init 1 = .ok (.invokespecial 3, 3) := by decide +kernel
theorem dX4_init_4 : decode cX4_init 4 = .ok (.aload_n 0, 1) := by decide +kernel
theorem dX4_init_5 : decode cX4_init 5 = .ok (.sipush 6000, 3) := by decide +kernel
theorem dX4_init_8 : decode cX4_init 8 = .ok (.newarray .byte, 2) := by decide +kernel
theorem dX4_init_10 : decode cX4_init 10 = .ok (.putfield 9, 3) := by decide +kernel
theorem dX4_init_13 : decode cX4_init 13 = .ok (.return_, 1) := by decide +kernel
theorem dX4_size_0 : decode cX4_size 0 = .ok (.aload_n 0, 1) := by decide +kernel
theorem dX4_size_1 : decode cX4_size 1 = .ok (.getfield 15, 3) := by decide +kernel
theorem dX4_size_4 : decode cX4_size 4 = .ok (.ireturn, 1) := by decide +kernel
theorem dX4_position_0 : decode cX4_position 0 = .ok (.aload_n 0, 1) := by decide +kernel
theorem dX4_position_1 : decode cX4_position 1 = .ok (.getfield 19, 3) := by decide +kernel
theorem dX4_position_4 : decode cX4_position 4 = .ok (.ireturn, 1) := by decide +kernel
theorem dX4_fault_0 : decode cX4_fault 0 = .ok (.aload_n 0, 1) := by decide +kernel
theorem dX4_fault_1 : decode cX4_fault 1 = .ok (.getfield 22, 3) := by decide +kernel
theorem dX4_fault_4 : decode cX4_fault 4 = .ok (.ireturn, 1) := by decide +kernel
theorem dX4_isSound_0 : decode cX4_isSound 0 = .ok (.aload_n 0, 1) := by decide +kernel
theorem dX4_isSound_1 : decode cX4_isSound 1 = .ok (.getfield 22, 3) := by decide +kernel
theorem dX4_isSound_4 : decode cX4_isSound 4 = .ok (.ifCond .ne 7, 3) := by decide +kernel
theorem dX4_isSound_7 : decode cX4_isSound 7 = .ok (.iconst 1, 1) := by decide +kernel
theorem dX4_isSound_8 : decode cX4_isSound 8 = .ok (.goto 4, 3) := by decide +kernel
theorem dX4_isSound_11 : decode cX4_isSound 11 = .ok (.iconst 0, 1) := by decide +kernel
theorem dX4_isSound_12 : decode cX4_isSound 12 = .ok (.ireturn, 1) := by decide +kernel
theorem dX4_add_0 : decode cX4_add 0 = .ok (.bipush 24, 2) := by decide +kernel
theorem dX4_add_2 : decode cX4_add 2 = .ok (.istore_n 2, 1) := by decide +kernel
theorem dX4_add_3 : decode cX4_add 3 = .ok (.iload_n 2, 1) := by decide +kernel
theorem dX4_add_4 : decode cX4_add 4 = .ok (.ifCond .lt 42, 3) := by decide +kernel
theorem dX4_add_7 : decode cX4_add 7 = .ok (.aload_n 0, 1) := by decide +kernel
theorem dX4_add_8 : decode cX4_add 8 = .ok (.getfield 15, 3) := by decide +kernel
theorem dX4_add_11 : decode cX4_add 11 = .ok (.sipush 6000, 3) := by decide +kernel
theorem dX4_add_14 : decode cX4_add 14 = .ok (.if_icmp .ge 32, 3) := by decide +kernel
theorem dX4_add_17 : decode cX4_add 17 = .ok (.aload_n 0, 1) := by decide +kernel
theorem dX4_add_18 : decode cX4_add 18 = .ok (.getfield 9, 3) := by decide +kernel
theorem dX4_add_21 : decode cX4_add 21 = .ok (.aload_n 0, 1) := by decide +kernel
theorem dX4_add_22 : decode cX4_add 22 = .ok (.getfield 15, 3) := by decide +kernel
theorem dX4_add_25 : decode cX4_add 25 = .ok (.iload_n 1, 1) := by decide +kernel
theorem dX4_add_26 : decode cX4_add 26 = .ok (.iload_n 2, 1) := by decide +kernel
theorem dX4_add_27 : decode cX4_add 27 = .ok (.ishr, 1) := by decide +kernel
theorem dX4_add_28 : decode cX4_add 28 = .ok (.i2b, 1) := by decide +kernel
theorem dX4_add_29 : decode cX4_add 29 = .ok (.bastore, 1) := by decide +kernel
theorem dX4_add_30 : decode cX4_add 30 = .ok (.aload_n 0, 1) := by decide +kernel
theorem dX4_add_31 : decode cX4_add 31 = .ok (.dup, 1) := by decide +kernel
theorem dX4_add_32 : decode cX4_add 32 = .ok (.getfield 15, 3) := by decide +kernel
theorem dX4_add_35 : decode cX4_add 35 = .ok (.iconst 1, 1) := by decide +kernel
theorem dX4_add_36 : decode cX4_add 36 = .ok (.iadd, 1) := by decide +kernel
theorem dX4_add_37 : decode cX4_add 37 = .ok (.putfield 15, 3) := by decide +kernel
theorem dX4_add_40 : decode cX4_add 40 = .ok (.iinc 2 (-8), 3) := by decide +kernel
theorem dX4_add_43 : decode cX4_add 43 = .ok (.goto (-40), 3) := by decide +kernel
theorem dX4_add_46 : decode cX4_add 46 = .ok (.return_, 1) := by decide +kernel
theorem dX4_cut_0 : decode cX4_cut 0 = .ok (.aload_n 0, 1) := by decide +kernel
theorem dX4_cut_1 : decode cX4_cut 1 = .ok (.iload_n 1, 1) := by decide +kernel
theorem dX4_cut_2 : decode cX4_cut 2 = .ok (.putfield 15, 3) := by decide +kernel
theorem dX4_cut_5 : decode cX4_cut 5 = .ok (.return_, 1) := by decide +kernel
theorem dX4_rewind_0 : decode cX4_rewind 0 = .ok (.aload_n 0, 1) := by decide +kernel
theorem dX4_rewind_1 : decode cX4_rewind 1 = .ok (.iconst 0, 1) := by decide +kernel
theorem dX4_rewind_2 : decode cX4_rewind 2 = .ok (.putfield 19, 3) := by decide +kernel
theorem dX4_rewind_5 : decode cX4_rewind 5 = .ok (.aload_n 0, 1) := by decide +kernel
theorem dX4_rewind_6 : decode cX4_rewind 6 = .ok (.iconst 0, 1) := by decide +kernel
theorem dX4_rewind_7 : decode cX4_rewind 7 = .ok (.putfield 22, 3) := by decide +kernel
theorem dX4_rewind_10 : decode cX4_rewind 10 = .ok (.return_, 1) := by decide +kernel
theorem dX4_fail_0 : decode cX4_fail 0 = .ok (.aload_n 0, 1) := by decide +kernel
theorem dX4_fail_1 : decode cX4_fail 1 = .ok (.getfield 22, 3) := by decide +kernel
theorem dX4_fail_4 : decode cX4_fail 4 = .ok (.ifCond .ne 8, 3) := by decide +kernel
theorem dX4_fail_7 : decode cX4_fail 7 = .ok (.aload_n 0, 1) := by decide +kernel
theorem dX4_fail_8 : decode cX4_fail 8 = .ok (.iload_n 1, 1) := by decide +kernel
theorem dX4_fail_9 : decode cX4_fail 9 = .ok (.putfield 22, 3) := by decide +kernel
theorem dX4_fail_12 : decode cX4_fail 12 = .ok (.return_, 1) := by decide +kernel
set_option maxRecDepth 100000 in
theorem ggX4_bit_X4_fail : GoodIn wsX4_bit wsX4_fail := goodIn_r _ [9, 3, 10, 11, 12, 13] rfl (by decide +kernel)
set_option maxRecDepth 100000 in
theorem gX4_bit_X4_fail : GoodIn wsX4_bit (wsV RX4 25 RX4 yX4_fail wsX4_fail) := goodIn_app (goodIn_of _ (by decide +kernel)) ggX4_bit_X4_fail
theorem dX4_bit_0 : decode cX4_bit 0 = .ok (.aload_n 0, 1) := by decide +kernel
theorem dX4_bit_1 : decode cX4_bit 1 = .ok (.getfield 19, 3) := by decide +kernel
theorem dX4_bit_4 : decode cX4_bit 4 = .ok (.bipush 8, 2) := by decide +kernel
theorem dX4_bit_6 : decode cX4_bit 6 = .ok (.aload_n 0, 1) := by decide +kernel
theorem dX4_bit_7 : decode cX4_bit 7 = .ok (.getfield 15, 3) := by decide +kernel
theorem dX4_bit_10 : decode cX4_bit 10 = .ok (.imul, 1) := by decide +kernel
theorem dX4_bit_11 : decode cX4_bit 11 = .ok (.if_icmp .lt 8, 3) := by decide +kernel
theorem dX4_bit_14 : decode cX4_bit 14 = .ok (.aload_n 0, 1) := by decide +kernel
theorem dX4_bit_15 : decode cX4_bit 15 = .ok (.iconst 1, 1) := by decide +kernel
theorem dX4_bit_16 : decode cX4_bit 16 = .ok (.invokevirtual 25, 3) := by decide +kernel
theorem dX4_bit_19 : decode cX4_bit 19 = .ok (.aload_n 0, 1) := by decide +kernel
theorem dX4_bit_20 : decode cX4_bit 20 = .ok (.getfield 22, 3) := by decide +kernel
theorem dX4_bit_23 : decode cX4_bit 23 = .ok (.ifCond .eq 5, 3) := by decide +kernel
theorem dX4_bit_26 : decode cX4_bit 26 = .ok (.iconst 0, 1) := by decide +kernel
theorem dX4_bit_27 : decode cX4_bit 27 = .ok (.ireturn, 1) := by decide +kernel
theorem dX4_bit_28 : decode cX4_bit 28 = .ok (.aload_n 0, 1) := by decide +kernel
theorem dX4_bit_29 : decode cX4_bit 29 = .ok (.getfield 9, 3) := by decide +kernel
theorem dX4_bit_32 : decode cX4_bit 32 = .ok (.aload_n 0, 1) := by decide +kernel
theorem dX4_bit_33 : decode cX4_bit 33 = .ok (.getfield 19, 3) := by decide +kernel
theorem dX4_bit_36 : decode cX4_bit 36 = .ok (.bipush 8, 2) := by decide +kernel
theorem dX4_bit_38 : decode cX4_bit 38 = .ok (.idiv, 1) := by decide +kernel
theorem dX4_bit_39 : decode cX4_bit 39 = .ok (.baload, 1) := by decide +kernel
theorem dX4_bit_40 : decode cX4_bit 40 = .ok (.bipush 7, 2) := by decide +kernel
theorem dX4_bit_42 : decode cX4_bit 42 = .ok (.aload_n 0, 1) := by decide +kernel
theorem dX4_bit_43 : decode cX4_bit 43 = .ok (.getfield 19, 3) := by decide +kernel
theorem dX4_bit_46 : decode cX4_bit 46 = .ok (.bipush 8, 2) := by decide +kernel
theorem dX4_bit_48 : decode cX4_bit 48 = .ok (.irem, 1) := by decide +kernel
theorem dX4_bit_49 : decode cX4_bit 49 = .ok (.isub, 1) := by decide +kernel
theorem dX4_bit_50 : decode cX4_bit 50 = .ok (.ishr, 1) := by decide +kernel
theorem dX4_bit_51 : decode cX4_bit 51 = .ok (.iconst 1, 1) := by decide +kernel
theorem dX4_bit_52 : decode cX4_bit 52 = .ok (.iand, 1) := by decide +kernel
theorem dX4_bit_53 : decode cX4_bit 53 = .ok (.istore_n 1, 1) := by decide +kernel
theorem dX4_bit_54 : decode cX4_bit 54 = .ok (.aload_n 0, 1) := by decide +kernel
theorem dX4_bit_55 : decode cX4_bit 55 = .ok (.dup, 1) := by decide +kernel
theorem dX4_bit_56 : decode cX4_bit 56 = .ok (.getfield 19, 3) := by decide +kernel
theorem dX4_bit_59 : decode cX4_bit 59 = .ok (.iconst 1, 1) := by decide +kernel
theorem dX4_bit_60 : decode cX4_bit 60 = .ok (.iadd, 1) := by decide +kernel
theorem dX4_bit_61 : decode cX4_bit 61 = .ok (.putfield 19, 3) := by decide +kernel
theorem dX4_bit_64 : decode cX4_bit 64 = .ok (.iload_n 1, 1) := by decide +kernel
theorem dX4_bit_65 : decode cX4_bit 65 = .ok (.ireturn, 1) := by decide +kernel
set_option maxRecDepth 100000 in
theorem ggX4_number_X4_bit : GoodIn wsX4_number wsX4_bit := goodIn_r _ [5, 6, 7, 8, 9, 10, 11, 12, 4, 13, 14, 15, 16, 17] rfl (by decide +kernel)
set_option maxRecDepth 100000 in
theorem gX4_number_X4_bit : GoodIn wsX4_number (wsV RX4 29 RX4 yX4_bit wsX4_bit) := goodIn_app (goodIn_of _ (by decide +kernel)) ggX4_number_X4_bit
theorem dX4_number_0 : decode cX4_number 0 = .ok (.iconst 0, 1) := by decide +kernel
theorem dX4_number_1 : decode cX4_number 1 = .ok (.istore_n 2, 1) := by decide +kernel
theorem dX4_number_2 : decode cX4_number 2 = .ok (.iconst 0, 1) := by decide +kernel
theorem dX4_number_3 : decode cX4_number 3 = .ok (.istore_n 3, 1) := by decide +kernel
theorem dX4_number_4 : decode cX4_number 4 = .ok (.iload_n 3, 1) := by decide +kernel
theorem dX4_number_5 : decode cX4_number 5 = .ok (.iload_n 1, 1) := by decide +kernel
theorem dX4_number_6 : decode cX4_number 6 = .ok (.if_icmp .ge 18, 3) := by decide +kernel
theorem dX4_number_9 : decode cX4_number 9 = .ok (.iconst 2, 1) := by decide +kernel
theorem dX4_number_10 : decode cX4_number 10 = .ok (.iload_n 2, 1) := by decide +kernel
theorem dX4_number_11 : decode cX4_number 11 = .ok (.imul, 1) := by decide +kernel
theorem dX4_number_12 : decode cX4_number 12 = .ok (.aload_n 0, 1) := by decide +kernel
theorem dX4_number_13 : decode cX4_number 13 = .ok (.invokevirtual 29, 3) := by decide +kernel
theorem dX4_number_16 : decode cX4_number 16 = .ok (.iadd, 1) := by decide +kernel
theorem dX4_number_17 : decode cX4_number 17 = .ok (.istore_n 2, 1) := by decide +kernel
theorem dX4_number_18 : decode cX4_number 18 = .ok (.iinc 3 1, 3) := by decide +kernel
theorem dX4_number_21 : decode cX4_number 21 = .ok (.goto (-17), 3) := by decide +kernel
theorem dX4_number_24 : decode cX4_number 24 = .ok (.iload_n 2, 1) := by decide +kernel
theorem dX4_number_25 : decode cX4_number 25 = .ok (.ireturn, 1) := by decide +kernel
theorem dX5_init_0 : decode cX5_init 0 = .ok (.aload_n 0, 1) := by decide +kernel
theorem dX5_init_1 : decode cX5_init 1 = .ok (.invokespecial 5, 3) := by decide +kernel
theorem dX5_init_4 : decode cX5_init 4 = .ok (.aload_n 0, 1) := by decide +kernel
theorem dX5_init_5 : decode cX5_init 5 = .ok (.bipush 88, 2) := by decide +kernel
theorem dX5_init_7 : decode cX5_init 7 = .ok (.newarray .int, 2) := by decide +kernel
theorem dX5_init_9 : decode cX5_init 9 = .ok (.putfield 11, 3) := by decide +kernel
theorem dX5_init_12 : decode cX5_init 12 = .ok (.return_, 1) := by decide +kernel
theorem dX5_tokenCount_0 : decode cX5_tokenCount 0 = .ok (.aload_n 0, 1) := by decide +kernel
theorem dX5_tokenCount_1 : decode cX5_tokenCount 1 = .ok (.getfield 15, 3) := by decide +kernel
theorem dX5_tokenCount_4 : decode cX5_tokenCount 4 = .ok (.ireturn, 1) := by decide +kernel
set_option maxRecDepth 100000 in
theorem ggX5_read_X5_readBranch : GoodIn wsX5_read wsX5_readBranch := goodIn_r _ [7, 1, 8, 9, 10, 11, 12, 13, 14, 15, 16, 17, 18, 19, 20, 21, 22, 23, 24, 6, 25, 2, 26, 27, 28, 29, 30, 31, 32, 33, 34, 35, 4, 5, 36, 37, 38, 39, 40, 41, 42, 43] rfl (by decide +kernel)
set_option maxRecDepth 100000 in
theorem gX5_read_X5_readBranch : GoodIn wsX5_read (va_wsS RX5 22 yX5_readBranch wsX5_readBranch) := goodIn_app (goodIn_of _ (by decide +kernel)) ggX5_read_X5_readBranch
theorem dX5_read_0 : decode cX5_read 0 = .ok (.aload_n 0, 1) := by decide +kernel
theorem dX5_read_1 : decode cX5_read 1 = .ok (.iconst 0, 1) := by decide +kernel
theorem dX5_read_2 : decode cX5_read 2 = .ok (.putfield 19, 3) := by decide +kernel
theorem dX5_read_5 : decode cX5_read 5 = .ok (.aload_n 0, 1) := by decide +kernel
theorem dX5_read_6 : decode cX5_read 6 = .ok (.iconst 0, 1) := by decide +kernel
theorem dX5_read_7 : decode cX5_read 7 = .ok (.putfield 15, 3) := by decide +kernel
theorem dX5_read_10 : decode cX5_read 10 = .ok (.aload_n 0, 1) := by decide +kernel
theorem dX5_read_11 : decode cX5_read 11 = .ok (.aload_n 0, 1) := by decide +kernel
theorem dX5_read_12 : decode cX5_read 12 = .ok (.aload_n 1, 1) := by decide +kernel
theorem dX5_read_13 : decode cX5_read 13 = .ok (.iconst 0, 1) := by decide +kernel
theorem dX5_read_14 : decode cX5_read 14 = .ok (.invokestatic 22, 3) := by decide +kernel
theorem dX5_read_17 : decode cX5_read 17 = .ok (.putfield 26, 3) := by decide +kernel
theorem dX5_read_20 : decode cX5_read 20 = .ok (.return_, 1) := by decide +kernel
set_option maxRecDepth 100000 in
theorem ggX5_readBranch_X4_bit : GoodIn wsX5_readBranch wsX4_bit := goodIn_r _ [7, 8, 9, 10, 11, 12, 13, 14, 6, 15, 38, 39, 40, 41] rfl (by decide +kernel)
set_option maxRecDepth 100000 in
theorem gX5_readBranch_X4_bit : GoodIn wsX5_readBranch (wsV RX5 29 RX4 yX4_bit wsX4_bit) := goodIn_app (goodIn_of _ (by decide +kernel)) ggX5_readBranch_X4_bit
set_option maxRecDepth 100000 in
theorem ggX5_readBranch_X5_readLeaf : GoodIn wsX5_readBranch wsX5_readLeaf := goodIn_r _ [20, 21, 22, 13, 14, 6, 15, 10, 23, 24, 25, 26, 27, 4, 5, 7, 8, 9, 11, 12, 34, 35, 36, 37, 38, 39, 40, 41] rfl (by decide +kernel)
set_option maxRecDepth 100000 in
theorem gX5_readBranch_X5_readLeaf : GoodIn wsX5_readBranch (wsV RX5 35 RX5 yX5_readLeaf wsX5_readLeaf) := goodIn_app (goodIn_of _ (by decide +kernel)) ggX5_readBranch_X5_readLeaf
set_option maxRecDepth 100000 in
theorem ggX5_readBranch_X4_fail : GoodIn wsX5_readBranch wsX4_fail := goodIn_r _ [15, 10, 38, 39, 40, 41] rfl (by decide +kernel)
set_option maxRecDepth 100000 in
theorem gX5_readBranch_X4_fail : GoodIn wsX5_readBranch (wsV RX5 39 RX4 yX4_fail wsX4_fail) := goodIn_app (goodIn_of _ (by decide +kernel)) ggX5_readBranch_X4_fail
set_option maxRecDepth 100000 in
theorem ggX5_readBranch_X4_isSound : GoodIn wsX5_readBranch wsX4_isSound := goodIn_r _ [31, 10, 38, 39, 40, 41] rfl (by decide +kernel)
set_option maxRecDepth 100000 in
theorem gX5_readBranch_X4_isSound : GoodIn wsX5_readBranch (wsV RX5 43 RX4 yX4_isSound wsX4_isSound) := goodIn_app (goodIn_of _ (by decide +kernel)) ggX5_readBranch_X4_isSound
set_option maxRecDepth 100000 in
theorem ggX5_readBranch_X5_readBranch : GoodIn wsX5_readBranch wsX5_readBranch := goodIn_r _ [0, 1, 2, 3, 4, 5, 6, 7, 8, 9, 10, 11, 12, 13, 14, 15, 16, 17, 18, 19, 20, 21, 22, 23, 24, 25, 26, 27, 28, 29, 30, 31, 32, 33, 34, 35, 36, 37, 38, 39, 40, 41] rfl (by decide +kernel)
set_option maxRecDepth 100000 in
theorem gX5_readBranch_X5_readBranch : GoodIn wsX5_readBranch (va_wsS RX5 22 yX5_readBranch wsX5_readBranch) := goodIn_app (goodIn_of _ (by decide +kernel)) ggX5_readBranch_X5_readBranch
theorem dX5_readBranch_0 : decode cX5_readBranch 0 = .ok (.aload_n 1, 1) := by decide +kernel
theorem dX5_readBranch_1 : decode cX5_readBranch 1 = .ok (.invokevirtual 29, 3) := by decide +kernel
theorem dX5_readBranch_4 : decode cX5_readBranch 4 = .ok (.iconst 1, 1) := by decide +kernel
theorem dX5_readBranch_5 : decode cX5_readBranch 5 = .ok (.if_icmp .ne 9, 3) := by decide +kernel
theorem dX5_readBranch_8 : decode cX5_readBranch 8 = .ok (.aload_n 0, 1) := by decide +kernel
theorem dX5_readBranch_9 : decode cX5_readBranch 9 = .ok (.aload_n 1, 1) := by decide +kernel
theorem dX5_readBranch_10 : decode cX5_readBranch 10 = .ok (.invokevirtual 35, 3) := by decide +kernel
theorem dX5_readBranch_13 : decode cX5_readBranch 13 = .ok (.ireturn, 1) := by decide +kernel
theorem dX5_readBranch_14 : decode cX5_readBranch 14 = .ok (.iload_n 2, 1) := by decide +kernel
theorem dX5_readBranch_15 : decode cX5_readBranch 15 = .ok (.bipush 12, 2) := by decide +kernel
theorem dX5_readBranch_17 : decode cX5_readBranch 17 = .ok (.if_icmp .ge 12, 3) := by decide +kernel
theorem dX5_readBranch_20 : decode cX5_readBranch 20 = .ok (.aload_n 0, 1) := by decide +kernel
theorem dX5_readBranch_21 : decode cX5_readBranch 21 = .ok (.getfield 19, 3) := by decide +kernel
theorem dX5_readBranch_24 : decode cX5_readBranch 24 = .ok (.bipush 44, 2) := by decide +kernel
theorem dX5_readBranch_26 : decode cX5_readBranch 26 = .ok (.if_icmp .lt 8, 3) := by decide +kernel
theorem dX5_readBranch_29 : decode cX5_readBranch 29 = .ok (.aload_n 1, 1) := by decide +kernel
theorem dX5_readBranch_30 : decode cX5_readBranch 30 = .ok (.iconst 3, 1) := by decide +kernel
theorem dX5_readBranch_31 : decode cX5_readBranch 31 = .ok (.invokevirtual 39, 3) := by decide +kernel
theorem dX5_readBranch_34 : decode cX5_readBranch 34 = .ok (.aload_n 1, 1) := by decide +kernel
theorem dX5_readBranch_35 : decode cX5_readBranch 35 = .ok (.invokevirtual 43, 3) := by decide +kernel
theorem dX5_readBranch_38 : decode cX5_readBranch 38 = .ok (.ifCond .ne 5, 3) := by decide +kernel
theorem dX5_readBranch_41 : decode cX5_readBranch 41 = .ok (.iconst 0, 1) := by decide +kernel
theorem dX5_readBranch_42 : decode cX5_readBranch 42 = .ok (.ireturn, 1) := by decide +kernel
theorem dX5_readBranch_43 : decode cX5_readBranch 43 = .ok (.aload_n 0, 1) := by decide +kernel
theorem dX5_readBranch_44 : decode cX5_readBranch 44 = .ok (.getfield 19, 3) := by decide +kernel
theorem dX5_readBranch_47 : decode cX5_readBranch 47 = .ok (.istore_n 3, 1) := by decide +kernel
theorem dX5_readBranch_48 : decode cX5_readBranch 48 = .ok (.aload_n 0, 1) := by decide +kernel
theorem dX5_readBranch_49 : decode cX5_readBranch 49 = .ok (.dup, 1) := by decide +kernel
theorem dX5_readBranch_50 : decode cX5_readBranch 50 = .ok (.getfield 19, 3) := by decide +kernel
theorem dX5_readBranch_53 : decode cX5_readBranch 53 = .ok (.iconst 1, 1) := by decide +kernel
theorem dX5_readBranch_54 : decode cX5_readBranch 54 = .ok (.iadd, 1) := by decide +kernel
theorem dX5_readBranch_55 : decode cX5_readBranch 55 = .ok (.putfield 19, 3) := by decide +kernel
theorem dX5_readBranch_58 : decode cX5_readBranch 58 = .ok (.aload_n 0, 1) := by decide +kernel
theorem dX5_readBranch_59 : decode cX5_readBranch 59 = .ok (.getfield 11, 3) := by decide +kernel
theorem dX5_readBranch_62 : decode cX5_readBranch 62 = .ok (.iconst 2, 1) := by decide +kernel
theorem dX5_readBranch_63 : decode cX5_readBranch 63 = .ok (.iload_n 3, 1) := by decide +kernel
theorem dX5_readBranch_64 : decode cX5_readBranch 64 = .ok (.imul, 1) := by decide +kernel
theorem dX5_readBranch_65 : decode cX5_readBranch 65 = .ok (.aload_n 0, 1) := by decide +kernel
theorem dX5_readBranch_66 : decode cX5_readBranch 66 = .ok (.aload_n 1, 1) := by decide +kernel
theorem dX5_readBranch_67 : decode cX5_readBranch 67 = .ok (.iload_n 2, 1) := by decide +kernel
theorem dX5_readBranch_68 : decode cX5_readBranch 68 = .ok (.iconst 1, 1) := by decide +kernel
theorem dX5_readBranch_69 : decode cX5_readBranch 69 = .ok (.iadd, 1) := by decide +kernel
theorem dX5_readBranch_70 : decode cX5_readBranch 70 = .ok (.invokestatic 22, 3) := by decide +kernel
theorem dX5_readBranch_73 : decode cX5_readBranch 73 = .ok (.iastore, 1) := by decide +kernel
theorem dX5_readBranch_74 : decode cX5_readBranch 74 = .ok (.aload_n 0, 1) := by decide +kernel
theorem dX5_readBranch_75 : decode cX5_readBranch 75 = .ok (.getfield 11, 3) := by decide +kernel
theorem dX5_readBranch_78 : decode cX5_readBranch 78 = .ok (.iconst 2, 1) := by decide +kernel
theorem dX5_readBranch_79 : decode cX5_readBranch 79 = .ok (.iload_n 3, 1) := by decide +kernel
theorem dX5_readBranch_80 : decode cX5_readBranch 80 = .ok (.imul, 1) := by decide +kernel
theorem dX5_readBranch_81 : decode cX5_readBranch 81 = .ok (.iconst 1, 1) := by decide +kernel
theorem dX5_readBranch_82 : decode cX5_readBranch 82 = .ok (.iadd, 1) := by decide +kernel
theorem dX5_readBranch_83 : decode cX5_readBranch 83 = .ok (.aload_n 0, 1) := by decide +kernel
theorem dX5_readBranch_84 : decode cX5_readBranch 84 = .ok (.aload_n 1, 1) := by decide +kernel
theorem dX5_readBranch_85 : decode cX5_readBranch 85 = .ok (.iload_n 2, 1) := by decide +kernel
theorem dX5_readBranch_86 : decode cX5_readBranch 86 = .ok (.iconst 1, 1) := by decide +kernel
theorem dX5_readBranch_87 : decode cX5_readBranch 87 = .ok (.iadd, 1) := by decide +kernel
theorem dX5_readBranch_88 : decode cX5_readBranch 88 = .ok (.invokestatic 22, 3) := by decide +kernel
theorem dX5_readBranch_91 : decode cX5_readBranch 91 = .ok (.iastore, 1) := by decide +kernel
theorem dX5_readBranch_92 : decode cX5_readBranch 92 = .ok (.iload_n 3, 1) := by decide +kernel
theorem dX5_readBranch_93 : decode cX5_readBranch 93 = .ok (.ireturn, 1) := by decide +kernel
set_option maxRecDepth 100000 in
theorem ggX5_readLeaf_X4_fail : GoodIn wsX5_readLeaf wsX4_fail := goodIn_r _ [6, 7, 24, 25, 26, 27] rfl (by decide +kernel)
set_option maxRecDepth 100000 in
theorem gX5_readLeaf_X4_fail : GoodIn wsX5_readLeaf (wsV RX5 39 RX4 yX4_fail wsX4_fail) := goodIn_app (goodIn_of _ (by decide +kernel)) ggX5_readLeaf_X4_fail
set_option maxRecDepth 100000 in
theorem ggX5_readLeaf_X4_number : GoodIn wsX5_readLeaf wsX4_number := goodIn_r _ [11, 12, 13, 14, 5, 15, 16, 17, 7, 18, 19, 3, 4, 6, 24, 25, 26, 27] rfl (by decide +kernel)
set_option maxRecDepth 100000 in
theorem gX5_readLeaf_X4_number : GoodIn wsX5_readLeaf (wsV RX5 47 RX4 yX4_number wsX4_number) := goodIn_app (goodIn_of _ (by decide +kernel)) ggX5_readLeaf_X4_number
theorem dX5_readLeaf_0 : decode cX5_readLeaf 0 = .ok (.aload_n 0, 1) := by decide +kernel
theorem dX5_readLeaf_1 : decode cX5_readLeaf 1 = .ok (.getfield 15, 3) := by decide +kernel
theorem dX5_readLeaf_4 : decode cX5_readLeaf 4 = .ok (.bipush 32, 2) := by decide +kernel
theorem dX5_readLeaf_6 : decode cX5_readLeaf 6 = .ok (.if_icmp .lt 8, 3) := by decide +kernel
theorem dX5_readLeaf_9 : decode cX5_readLeaf 9 = .ok (.aload_n 1, 1) := by decide +kernel
theorem dX5_readLeaf_10 : decode cX5_readLeaf 10 = .ok (.iconst 3, 1) := by decide +kernel
theorem dX5_readLeaf_11 : decode cX5_readLeaf 11 = .ok (.invokevirtual 39, 3) := by decide +kernel
theorem dX5_readLeaf_14 : decode cX5_readLeaf 14 = .ok (.aload_n 0, 1) := by decide +kernel
theorem dX5_readLeaf_15 : decode cX5_readLeaf 15 = .ok (.dup, 1) := by decide +kernel
theorem dX5_readLeaf_16 : decode cX5_readLeaf 16 = .ok (.getfield 15, 3) := by decide +kernel
theorem dX5_readLeaf_19 : decode cX5_readLeaf 19 = .ok (.iconst 1, 1) := by decide +kernel
theorem dX5_readLeaf_20 : decode cX5_readLeaf 20 = .ok (.iadd, 1) := by decide +kernel
theorem dX5_readLeaf_21 : decode cX5_readLeaf 21 = .ok (.putfield 15, 3) := by decide +kernel
theorem dX5_readLeaf_24 : decode cX5_readLeaf 24 = .ok (.iconst (-1), 1) := by decide +kernel
theorem dX5_readLeaf_25 : decode cX5_readLeaf 25 = .ok (.aload_n 1, 1) := by decide +kernel
theorem dX5_readLeaf_26 : decode cX5_readLeaf 26 = .ok (.iconst 5, 1) := by decide +kernel
theorem dX5_readLeaf_27 : decode cX5_readLeaf 27 = .ok (.invokevirtual 47, 3) := by decide +kernel
theorem dX5_readLeaf_30 : decode cX5_readLeaf 30 = .ok (.isub, 1) := by decide +kernel
theorem dX5_readLeaf_31 : decode cX5_readLeaf 31 = .ok (.ireturn, 1) := by decide +kernel
set_option maxRecDepth 100000 in
theorem ggX5_readToken_X4_bit : GoodIn wsX5_readToken wsX4_bit := goodIn_r _ [7, 8, 9, 10, 11, 12, 13, 14, 6, 15, 20, 21, 22, 23] rfl (by decide +kernel)
set_option maxRecDepth 100000 in
theorem gX5_readToken_X4_bit : GoodIn wsX5_readToken (wsV RX5 29 RX4 yX4_bit wsX4_bit) := goodIn_app (goodIn_of _ (by decide +kernel)) ggX5_readToken_X4_bit
theorem dX5_readToken_0 : decode cX5_readToken 0 = .ok (.aload_n 0, 1) := by decide +kernel
theorem dX5_readToken_1 : decode cX5_readToken 1 = .ok (.getfield 26, 3) := by decide +kernel
theorem dX5_readToken_4 : decode cX5_readToken 4 = .ok (.istore_n 2, 1) := by decide +kernel
theorem dX5_readToken_5 : decode cX5_readToken 5 = .ok (.iconst 0, 1) := by decide +kernel
theorem dX5_readToken_6 : decode cX5_readToken 6 = .ok (.istore_n 3, 1) := by decide +kernel
theorem dX5_readToken_7 : decode cX5_readToken 7 = .ok (.iload_n 3, 1) := by decide +kernel
theorem dX5_readToken_8 : decode cX5_readToken 8 = .ok (.bipush 12, 2) := by decide +kernel
theorem dX5_readToken_10 : decode cX5_readToken 10 = .ok (.if_icmp .ge 27, 3) := by decide +kernel
theorem dX5_readToken_13 : decode cX5_readToken 13 = .ok (.iload_n 2, 1) := by decide +kernel
theorem dX5_readToken_14 : decode cX5_readToken 14 = .ok (.ifCond .lt 23, 3) := by decide +kernel
theorem dX5_readToken_17 : decode cX5_readToken 17 = .ok (.aload_n 0, 1) := by decide +kernel
theorem dX5_readToken_18 : decode cX5_readToken 18 = .ok (.getfield 11, 3) := by decide +kernel
theorem dX5_readToken_21 : decode cX5_readToken 21 = .ok (.iconst 2, 1) := by decide +kernel
theorem dX5_readToken_22 : decode cX5_readToken 22 = .ok (.iload_n 2, 1) := by decide +kernel
theorem dX5_readToken_23 : decode cX5_readToken 23 = .ok (.imul, 1) := by decide +kernel
theorem dX5_readToken_24 : decode cX5_readToken 24 = .ok (.aload_n 1, 1) := by decide +kernel
theorem dX5_readToken_25 : decode cX5_readToken 25 = .ok (.invokevirtual 29, 3) := by decide +kernel
theorem dX5_readToken_28 : decode cX5_readToken 28 = .ok (.iadd, 1) := by decide +kernel
theorem dX5_readToken_29 : decode cX5_readToken 29 = .ok (.iaload, 1) := by decide +kernel
theorem dX5_readToken_30 : decode cX5_readToken 30 = .ok (.istore_n 2, 1) := by decide +kernel
theorem dX5_readToken_31 : decode cX5_readToken 31 = .ok (.iinc 3 1, 3) := by decide +kernel
theorem dX5_readToken_34 : decode cX5_readToken 34 = .ok (.goto (-27), 3) := by decide +kernel
theorem dX5_readToken_37 : decode cX5_readToken 37 = .ok (.iconst (-1), 1) := by decide +kernel
theorem dX5_readToken_38 : decode cX5_readToken 38 = .ok (.iload_n 2, 1) := by decide +kernel
theorem dX5_readToken_39 : decode cX5_readToken 39 = .ok (.isub, 1) := by decide +kernel
theorem dX5_readToken_40 : decode cX5_readToken 40 = .ok (.ireturn, 1) := by decide +kernel
set_option maxRecDepth 100000 in
theorem ggX6_init_X4_init : GoodIn wsX6_init wsX4_init := goodIn_r _ [29, 30, 2, 3, 31, 32, 85, 86, 87, 88] rfl (by decide +kernel)
set_option maxRecDepth 100000 in
theorem gX6_init_X4_init_n11 : GoodIn wsX6_init (wsX4_init) := ggX6_init_X4_init
set_option maxRecDepth 100000 in
theorem ggX6_init_X2_init : GoodIn wsX6_init wsX2_init := goodIn_r _ [35, 36, 2, 3, 37, 38, 39, 40, 41, 42, 43, 44, 45, 46, 10, 47, 48, 49, 50, 51, 52, 53, 54, 55, 101, 102, 103, 104, 105] rfl (by decide +kernel)
set_option maxRecDepth 100000 in
theorem gX6_init_X2_init : GoodIn wsX6_init (wsX2_init) := ggX6_init_X2_init
set_option maxRecDepth 100000 in
theorem ggX6_init_X1_init : GoodIn wsX6_init wsX1_init := goodIn_r _ [57, 58, 2, 3, 37, 59, 60, 61, 62, 63, 64, 65, 66, 67, 68, 69, 70, 106, 107, 108, 109, 110, 111, 112, 113, 129, 130, 131, 132] rfl (by decide +kernel)
set_option maxRecDepth 100000 in
theorem gX6_init_X1_init_n25 : GoodIn wsX6_init (wsX1_init) := ggX6_init_X1_init
set_option maxRecDepth 100000 in
theorem ggX6_init_X0_init : GoodIn wsX6_init wsX0_init := goodIn_r _ [72, 73, 2, 3, 37, 74, 75, 76, 77, 78, 79, 80, 114, 115, 116, 117, 118, 119, 120, 121, 122, 123, 124, 125] rfl (by decide +kernel)
set_option maxRecDepth 100000 in
theorem gX6_init_X0_init_n35 : GoodIn wsX6_init (wsX0_init) := ggX6_init_X0_init
set_option maxRecDepth 100000 in
theorem ggX6_init_X3_init : GoodIn wsX6_init wsX3_init := goodIn_r _ [82, 83, 2, 3, 37, 84, 126, 127, 128] rfl (by decide +kernel)
set_option maxRecDepth 100000 in
theorem gX6_init_X3_init_n45 : GoodIn wsX6_init (wsX3_init) := ggX6_init_X3_init
theorem dX6_init_0 : decode cX6_init 0 = .ok (.aload_n 0, 1) := by decide +kernel
theorem dX6_init_1 : decode cX6_init 1 = .ok (.invokespecial 3, 3) := by decide +kernel
theorem dX6_init_4 : decode cX6_init 4 = .ok (.aload_n 0, 1) := by decide +kernel
theorem dX6_init_5 : decode cX6_init 5 = .ok (.new 9, 3) := by decide +kernel
theorem dX6_init_8 : decode cX6_init 8 = .ok (.dup, 1) := by decide +kernel
theorem dX6_init_9 : decode cX6_init 9 = .ok (.invokespecial 11, 3) := by decide +kernel
theorem dX6_init_12 : decode cX6_init 12 = .ok (.putfield 12, 3) := by decide +kernel
theorem dX6_init_15 : decode cX6_init 15 = .ok (.aload_n 0, 1) := by decide +kernel
theorem dX6_init_16 : decode cX6_init 16 = .ok (.new 16, 3) := by decide +kernel
theorem dX6_init_19 : decode cX6_init 19 = .ok (.dup, 1) := by decide +kernel
theorem dX6_init_20 : decode cX6_init 20 = .ok (.invokespecial 18, 3) := by decide +kernel
theorem dX6_init_23 : decode cX6_init 23 = .ok (.putfield 19, 3) := by decide +kernel
theorem dX6_init_26 : decode cX6_init 26 = .ok (.aload_n 0, 1) := by decide +kernel
theorem dX6_init_27 : decode cX6_init 27 = .ok (.new 23, 3) := by decide +kernel
theorem dX6_init_30 : decode cX6_init 30 = .ok (.dup, 1) := by decide +kernel
theorem dX6_init_31 : decode cX6_init 31 = .ok (.invokespecial 25, 3) := by decide +kernel
theorem dX6_init_34 : decode cX6_init 34 = .ok (.putfield 26, 3) := by decide +kernel
theorem dX6_init_37 : decode cX6_init 37 = .ok (.aload_n 0, 1) := by decide +kernel
theorem dX6_init_38 : decode cX6_init 38 = .ok (.new 23, 3) := by decide +kernel
theorem dX6_init_41 : decode cX6_init 41 = .ok (.dup, 1) := by decide +kernel
theorem dX6_init_42 : decode cX6_init 42 = .ok (.invokespecial 25, 3) := by decide +kernel
theorem dX6_init_45 : decode cX6_init 45 = .ok (.putfield 30, 3) := by decide +kernel
theorem dX6_init_48 : decode cX6_init 48 = .ok (.aload_n 0, 1) := by decide +kernel
theorem dX6_init_49 : decode cX6_init 49 = .ok (.new 33, 3) := by decide +kernel
theorem dX6_init_52 : decode cX6_init 52 = .ok (.dup, 1) := by decide +kernel
theorem dX6_init_53 : decode cX6_init 53 = .ok (.invokespecial 35, 3) := by decide +kernel
theorem dX6_init_56 : decode cX6_init 56 = .ok (.putfield 36, 3) := by decide +kernel
theorem dX6_init_59 : decode cX6_init 59 = .ok (.aload_n 0, 1) := by decide +kernel
theorem dX6_init_60 : decode cX6_init 60 = .ok (.new 33, 3) := by decide +kernel
theorem dX6_init_63 : decode cX6_init 63 = .ok (.dup, 1) := by decide +kernel
theorem dX6_init_64 : decode cX6_init 64 = .ok (.invokespecial 35, 3) := by decide +kernel
theorem dX6_init_67 : decode cX6_init 67 = .ok (.putfield 40, 3) := by decide +kernel
theorem dX6_init_70 : decode cX6_init 70 = .ok (.aload_n 0, 1) := by decide +kernel
theorem dX6_init_71 : decode cX6_init 71 = .ok (.new 43, 3) := by decide +kernel
theorem dX6_init_74 : decode cX6_init 74 = .ok (.dup, 1) := by decide +kernel
theorem dX6_init_75 : decode cX6_init 75 = .ok (.invokespecial 45, 3) := by decide +kernel
theorem dX6_init_78 : decode cX6_init 78 = .ok (.putfield 46, 3) := by decide +kernel
theorem dX6_init_81 : decode cX6_init 81 = .ok (.aload_n 0, 1) := by decide +kernel
theorem dX6_init_82 : decode cX6_init 82 = .ok (.new 43, 3) := by decide +kernel
theorem dX6_init_85 : decode cX6_init 85 = .ok (.dup, 1) := by decide +kernel
theorem dX6_init_86 : decode cX6_init 86 = .ok (.invokespecial 45, 3) := by decide +kernel
theorem dX6_init_89 : decode cX6_init 89 = .ok (.putfield 50, 3) := by decide +kernel
theorem dX6_init_92 : decode cX6_init 92 = .ok (.aload_n 0, 1) := by decide +kernel
theorem dX6_init_93 : decode cX6_init 93 = .ok (.new 43, 3) := by decide +kernel
theorem dX6_init_96 : decode cX6_init 96 = .ok (.dup, 1) := by decide +kernel
theorem dX6_init_97 : decode cX6_init 97 = .ok (.invokespecial 45, 3) := by decide +kernel
theorem dX6_init_100 : decode cX6_init 100 = .ok (.putfield 53, 3) := by decide +kernel
theorem dX6_init_103 : decode cX6_init 103 = .ok (.return_, 1) := by decide +kernel
set_option maxRecDepth 100000 in
theorem ggX6_feed_X4_size : GoodIn wsX6_feed wsX4_size := goodIn_r _ [8, 9, 27, 28, 29, 30] rfl (by decide +kernel)
set_option maxRecDepth 100000 in
theorem gX6_feed_X4_size : GoodIn wsX6_feed (wsV RX6 56 RX4 yX4_size wsX4_size) := goodIn_app (goodIn_of _ (by decide +kernel)) ggX6_feed_X4_size
set_option maxRecDepth 100000 in
theorem ggX6_feed_X4_add : GoodIn wsX6_feed wsX4_add := goodIn_r _ [13, 9, 14, 27, 28, 29, 30] rfl (by decide +kernel)
set_option maxRecDepth 100000 in
theorem gX6_feed_X4_add : GoodIn wsX6_feed (wsV RX6 67 RX4 yX4_add wsX4_add) := goodIn_app (goodIn_of _ (by decide +kernel)) ggX6_feed_X4_add
theorem dX6_feed_0 : decode cX6_feed 0 = .ok (.aload_n 0, 1) := by decide +kernel
theorem dX6_feed_1 : decode cX6_feed 1 = .ok (.getfield 12, 3) := by decide +kernel
theorem dX6_feed_4 : decode cX6_feed 4 = .ok (.invokevirtual 56, 3) := by decide +kernel
theorem dX6_feed_7 : decode cX6_feed 7 = .ok (.bipush 16, 2) := by decide +kernel
theorem dX6_feed_9 : decode cX6_feed 9 = .ok (.iadd, 1) := by decide +kernel
theorem dX6_feed_10 : decode cX6_feed 10 = .ok (.sipush 6000, 3) := by decide +kernel
theorem dX6_feed_13 : decode cX6_feed 13 = .ok (.if_icmp .le 13, 3) := by decide +kernel
theorem dX6_feed_16 : decode cX6_feed 16 = .ok (.new 60, 3) := by decide +kernel
theorem dX6_feed_19 : decode cX6_feed 19 = .ok (.dup, 1) := by decide +kernel
theorem dX6_feed_20 : decode cX6_feed 20 = .ok (.ldc 62, 2) := by decide +kernel
theorem dX6_feed_22 : decode cX6_feed 22 = .ok (.invokespecial 64, 3) := by decide +kernel
theorem dX6_feed_25 : decode cX6_feed 25 = .ok (.athrow, 1) := by decide +kernel
theorem dX6_feed_26 : decode cX6_feed 26 = .ok (.aload_n 0, 1) := by decide +kernel
theorem dX6_feed_27 : decode cX6_feed 27 = .ok (.getfield 12, 3) := by decide +kernel
theorem dX6_feed_30 : decode cX6_feed 30 = .ok (.iload_n 1, 1) := by decide +kernel
theorem dX6_feed_31 : decode cX6_feed 31 = .ok (.invokevirtual 67, 3) := by decide +kernel
theorem dX6_feed_34 : decode cX6_feed 34 = .ok (.aload_n 0, 1) := by decide +kernel
theorem dX6_feed_35 : decode cX6_feed 35 = .ok (.getfield 12, 3) := by decide +kernel
theorem dX6_feed_38 : decode cX6_feed 38 = .ok (.iload_n 2, 1) := by decide +kernel
theorem dX6_feed_39 : decode cX6_feed 39 = .ok (.invokevirtual 67, 3) := by decide +kernel
theorem dX6_feed_42 : decode cX6_feed 42 = .ok (.aload_n 0, 1) := by decide +kernel
theorem dX6_feed_43 : decode cX6_feed 43 = .ok (.getfield 12, 3) := by decide +kernel
theorem dX6_feed_46 : decode cX6_feed 46 = .ok (.iload_n 3, 1) := by decide +kernel
theorem dX6_feed_47 : decode cX6_feed 47 = .ok (.invokevirtual 67, 3) := by decide +kernel
theorem dX6_feed_50 : decode cX6_feed 50 = .ok (.aload_n 0, 1) := by decide +kernel
theorem dX6_feed_51 : decode cX6_feed 51 = .ok (.getfield 12, 3) := by decide +kernel
theorem dX6_feed_54 : decode cX6_feed 54 = .ok (.iload 4, 2) := by decide +kernel
theorem dX6_feed_56 : decode cX6_feed 56 = .ok (.invokevirtual 67, 3) := by decide +kernel
theorem dX6_feed_59 : decode cX6_feed 59 = .ok (.aload_n 0, 1) := by decide +kernel
theorem dX6_feed_60 : decode cX6_feed 60 = .ok (.getfield 12, 3) := by decide +kernel
theorem dX6_feed_63 : decode cX6_feed 63 = .ok (.invokevirtual 56, 3) := by decide +kernel
theorem dX6_feed_66 : decode cX6_feed 66 = .ok (.ireturn, 1) := by decide +kernel
set_option maxRecDepth 100000 in
theorem ggX6_end_X4_size : GoodIn wsX6_end wsX4_size := goodIn_r _ [8, 9, 26, 27, 28, 29] rfl (by decide +kernel)
set_option maxRecDepth 100000 in
theorem gX6_end_X4_size : GoodIn wsX6_end (wsV RX6 56 RX4 yX4_size wsX4_size) := goodIn_app (goodIn_of _ (by decide +kernel)) ggX6_end_X4_size
set_option maxRecDepth 100000 in
theorem ggX6_end_X4_cut : GoodIn wsX6_end wsX4_cut := goodIn_r _ [13, 9, 26, 27, 28, 29] rfl (by decide +kernel)
set_option maxRecDepth 100000 in
theorem gX6_end_X4_cut : GoodIn wsX6_end (wsV RX6 76 RX4 yX4_cut wsX4_cut) := goodIn_app (goodIn_of _ (by decide +kernel)) ggX6_end_X4_cut
theorem dX6_end_0 : decode cX6_end 0 = .ok (.iload_n 1, 1) := by decide +kernel
theorem dX6_end_1 : decode cX6_end 1 = .ok (.ifCond .lt 14, 3) := by decide +kernel
theorem dX6_end_4 : decode cX6_end 4 = .ok (.iload_n 1, 1) := by decide +kernel
theorem dX6_end_5 : decode cX6_end 5 = .ok (.aload_n 0, 1) := by decide +kernel
theorem dX6_end_6 : decode cX6_end 6 = .ok (.getfield 12, 3) := by decide +kernel
theorem dX6_end_9 : decode cX6_end 9 = .ok (.invokevirtual 56, 3) := by decide +kernel
theorem dX6_end_12 : decode cX6_end 12 = .ok (.if_icmp .le 13, 3) := by decide +kernel
theorem dX6_end_15 : decode cX6_end 15 = .ok (.new 71, 3) := by decide +kernel
theorem dX6_end_18 : decode cX6_end 18 = .ok (.dup, 1) := by decide +kernel
theorem dX6_end_19 : decode cX6_end 19 = .ok (.ldc 73, 2) := by decide +kernel
theorem dX6_end_21 : decode cX6_end 21 = .ok (.invokespecial 75, 3) := by decide +kernel
theorem dX6_end_24 : decode cX6_end 24 = .ok (.athrow, 1) := by decide +kernel
theorem dX6_end_25 : decode cX6_end 25 = .ok (.aload_n 0, 1) := by decide +kernel
theorem dX6_end_26 : decode cX6_end 26 = .ok (.getfield 12, 3) := by decide +kernel
theorem dX6_end_29 : decode cX6_end 29 = .ok (.iload_n 1, 1) := by decide +kernel
theorem dX6_end_30 : decode cX6_end 30 = .ok (.invokevirtual 76, 3) := by decide +kernel
theorem dX6_end_33 : decode cX6_end 33 = .ok (.return_, 1) := by decide +kernel
set_option maxRecDepth 100000 in
theorem ggX6_header_X4_rewind : GoodIn wsX6_header wsX4_rewind := goodIn_r _ [7, 8, 9, 102, 103, 104, 105] rfl (by decide +kernel)
set_option maxRecDepth 100000 in
theorem gX6_header_X4_rewind : GoodIn wsX6_header (wsV RX6 79 RX4 yX4_rewind wsX4_rewind) := goodIn_app (goodIn_of _ (by decide +kernel)) ggX6_header_X4_rewind
set_option maxRecDepth 100000 in
theorem ggX6_header_X1_read : GoodIn wsX6_header wsX1_read := goodIn_r _ [14, 15, 16, 17, 18, 19, 20, 21, 22, 23, 24, 6, 25, 26, 27, 28, 29, 8, 30, 9, 31, 32, 33, 34, 35, 36, 37, 38, 39, 40, 41, 42, 43, 44, 45, 46, 47, 48, 49, 50, 51, 52, 53, 54, 55, 56, 57, 58, 59, 60, 61, 62, 63, 13, 64, 65, 66, 67, 68, 69, 70, 71, 106, 107, 108, 109, 110, 111, 112, 113, 102, 103, 104, 105, 114, 115, 116, 117] rfl (by decide +kernel)
set_option maxRecDepth 100000 in
theorem gX6_header_X1_read : GoodIn wsX6_header (wsV RX6 82 RX1 yX1_read wsX1_read) := goodIn_app (goodIn_of _ (by decide +kernel)) ggX6_header_X1_read
set_option maxRecDepth 100000 in
theorem ggX6_header_X4_cut : GoodIn wsX6_header wsX4_cut := goodIn_r _ [75, 30, 102, 103, 104, 105] rfl (by decide +kernel)
set_option maxRecDepth 100000 in
theorem gX6_header_X4_cut : GoodIn wsX6_header (wsV RX6 76 RX4 yX4_cut wsX4_cut) := goodIn_app (goodIn_of _ (by decide +kernel)) ggX6_header_X4_cut
set_option maxRecDepth 100000 in
theorem ggX6_header_X4_isSound : GoodIn wsX6_header wsX4_isSound := goodIn_r _ [59, 9, 102, 103, 104, 105] rfl (by decide +kernel)
set_option maxRecDepth 100000 in
theorem gX6_header_X4_isSound : GoodIn wsX6_header (wsV RX6 86 RX4 yX4_isSound wsX4_isSound) := goodIn_app (goodIn_of _ (by decide +kernel)) ggX6_header_X4_isSound
set_option maxRecDepth 100000 in
theorem ggX6_header_X6_takeHeader : GoodIn wsX6_header wsX6_takeHeader := goodIn_r _ [81, 82, 2, 83, 84, 85, 90, 91, 92, 93, 94, 95, 96, 97, 98, 99, 100, 101] rfl (by decide +kernel)
set_option maxRecDepth 100000 in
theorem gX6_header_X6_takeHeader : GoodIn wsX6_header (wsV RX6 90 RX6 yX6_takeHeader wsX6_takeHeader) := goodIn_app (goodIn_of _ (by decide +kernel)) ggX6_header_X6_takeHeader
set_option maxRecDepth 100000 in
theorem ggX6_header_X4_fault : GoodIn wsX6_header wsX4_fault := goodIn_r _ [89, 9, 102, 103, 104, 105] rfl (by decide +kernel)
set_option maxRecDepth 100000 in
theorem gX6_header_X4_fault : GoodIn wsX6_header (wsV RX6 93 RX4 yX4_fault wsX4_fault) := goodIn_app (goodIn_of _ (by decide +kernel)) ggX6_header_X4_fault
theorem dX6_header_0 : decode cX6_header 0 = .ok (.aload_n 0, 1) := by decide +kernel
theorem dX6_header_1 : decode cX6_header 1 = .ok (.getfield 12, 3) := by decide +kernel
theorem dX6_header_4 : decode cX6_header 4 = .ok (.invokevirtual 79, 3) := by decide +kernel
theorem dX6_header_7 : decode cX6_header 7 = .ok (.aload_n 0, 1) := by decide +kernel
theorem dX6_header_8 : decode cX6_header 8 = .ok (.getfield 30, 3) := by decide +kernel
theorem dX6_header_11 : decode cX6_header 11 = .ok (.aload_n 0, 1) := by decide +kernel
theorem dX6_header_12 : decode cX6_header 12 = .ok (.getfield 12, 3) := by decide +kernel
theorem dX6_header_15 : decode cX6_header 15 = .ok (.invokevirtual 82, 3) := by decide +kernel
theorem dX6_header_18 : decode cX6_header 18 = .ok (.aload_n 0, 1) := by decide +kernel
theorem dX6_header_19 : decode cX6_header 19 = .ok (.getfield 12, 3) := by decide +kernel
theorem dX6_header_22 : decode cX6_header 22 = .ok (.iconst 0, 1) := by decide +kernel
theorem dX6_header_23 : decode cX6_header 23 = .ok (.invokevirtual 76, 3) := by decide +kernel
theorem dX6_header_26 : decode cX6_header 26 = .ok (.aload_n 0, 1) := by decide +kernel
theorem dX6_header_27 : decode cX6_header 27 = .ok (.getfield 12, 3) := by decide +kernel
theorem dX6_header_30 : decode cX6_header 30 = .ok (.invokevirtual 86, 3) := by decide +kernel
theorem dX6_header_33 : decode cX6_header 33 = .ok (.ifCond .eq 7, 3) := by decide +kernel
theorem dX6_header_36 : decode cX6_header 36 = .ok (.aload_n 0, 1) := by decide +kernel
theorem dX6_header_37 : decode cX6_header 37 = .ok (.invokevirtual 90, 3) := by decide +kernel
theorem dX6_header_40 : decode cX6_header 40 = .ok (.aload_n 0, 1) := by decide +kernel
theorem dX6_header_41 : decode cX6_header 41 = .ok (.getfield 12, 3) := by decide +kernel
theorem dX6_header_44 : decode cX6_header 44 = .ok (.invokevirtual 93, 3) := by decide +kernel
theorem dX6_header_47 : decode cX6_header 47 = .ok (.ireturn, 1) := by decide +kernel
set_option maxRecDepth 100000 in
theorem ggX6_frame_X4_rewind : GoodIn wsX6_frame wsX4_rewind := goodIn_r _ [12, 13, 14, 329, 330, 331, 332] rfl (by decide +kernel)
set_option maxRecDepth 100000 in
theorem gX6_frame_X4_rewind : GoodIn wsX6_frame (wsV RX6 79 RX4 yX4_rewind wsX4_rewind) := goodIn_app (goodIn_of _ (by decide +kernel)) ggX6_frame_X4_rewind
set_option maxRecDepth 100000 in
theorem ggX6_frame_X0_read : GoodIn wsX6_frame wsX0_read := goodIn_r _ [19, 20, 21, 22, 23, 24, 25, 26, 27, 28, 29, 30, 31, 32, 33, 34, 35, 36, 37, 38, 18, 39, 40, 41, 42, 43, 44, 45, 46, 47, 48, 49, 50, 11, 51, 13, 52, 14, 53, 54, 55, 56, 57, 58, 59, 60, 61, 62, 63, 64, 65, 66, 67, 68, 69, 70, 71, 72, 73, 74, 75, 76, 77, 78, 79, 80, 81, 82, 83, 84, 85, 86, 87, 88, 89, 90, 91, 92, 93, 94, 95, 96, 97, 98, 99, 100, 101, 102, 103, 104, 105, 106, 107, 108, 109, 110, 111, 112, 113, 114, 115, 116, 117, 118, 119, 120, 121, 122, 123, 124, 125, 126, 127, 128, 129, 130, 131, 132, 133, 134, 135, 136, 137, 138, 139, 140, 141, 142, 143, 144, 145, 146, 147, 148, 149, 333, 334, 335, 336, 337, 338, 339, 340, 341, 342, 343, 344, 345, 346, 347, 348, 349, 350, 351, 352, 329, 330, 331, 332, 353, 354, 355, 356] rfl (by decide +kernel)
set_option maxRecDepth 100000 in
theorem gX6_frame_X0_read : GoodIn wsX6_frame (wsV RX6 105 RX0 yX0_read wsX0_read) := goodIn_app (goodIn_of _ (by decide +kernel)) ggX6_frame_X0_read
set_option maxRecDepth 100000 in
theorem ggX6_frame_X4_cut : GoodIn wsX6_frame wsX4_cut := goodIn_r _ [153, 52, 329, 330, 331, 332] rfl (by decide +kernel)
set_option maxRecDepth 100000 in
theorem gX6_frame_X4_cut : GoodIn wsX6_frame (wsV RX6 76 RX4 yX4_cut wsX4_cut) := goodIn_app (goodIn_of _ (by decide +kernel)) ggX6_frame_X4_cut
set_option maxRecDepth 100000 in
theorem ggX6_frame_X4_isSound : GoodIn wsX6_frame wsX4_isSound := goodIn_r _ [94, 14, 329, 330, 331, 332] rfl (by decide +kernel)
set_option maxRecDepth 100000 in
theorem gX6_frame_X4_isSound : GoodIn wsX6_frame (wsV RX6 86 RX4 yX4_isSound wsX4_isSound) := goodIn_app (goodIn_of _ (by decide +kernel)) ggX6_frame_X4_isSound
set_option maxRecDepth 100000 in
theorem ggX6_frame_X6_takeFrame : GoodIn wsX6_frame wsX6_takeFrame := goodIn_r _ [159, 160, 5, 161, 6, 162, 163, 164, 7, 165, 166, 167, 168, 169, 170, 171, 26, 27, 28, 29, 30, 172, 32, 33, 34, 35, 173, 174, 175, 176, 177, 178, 179, 180, 139, 140, 18, 141, 20, 181, 182, 183, 184, 40, 185, 186, 187, 188, 189, 190, 191, 192, 193, 194, 195, 43, 196, 197, 198, 199, 23, 200, 201, 202, 203, 204, 205, 206, 158, 207, 208, 209, 210, 211, 212, 213, 214, 215, 216, 217, 218, 219, 220, 221, 222, 223, 224, 225, 226, 227, 46, 228, 229, 230, 231, 232, 233, 234, 235, 236, 41, 237, 238, 239, 240, 42, 241, 242, 243, 244, 245, 246, 247, 248, 249, 250, 251, 252, 253, 254, 255, 256, 257, 258, 259, 260, 261, 262, 263, 264, 265, 21, 266, 267, 268, 269, 270, 271, 81, 82, 83, 272, 273, 274, 275, 276, 277, 278, 279, 280, 281, 282, 283, 284, 285, 286, 287, 288, 289, 290, 291, 292, 293, 294, 295, 296, 297, 298, 299, 300, 301, 302, 303, 304, 22, 24, 305, 306, 307, 308, 309, 310, 311, 312, 317, 318, 319, 320, 321, 322, 323, 324, 325, 326, 327, 328, 345, 346, 347, 348, 349, 350, 351, 352, 357, 358, 359, 333, 334, 335, 336, 337, 338, 339, 340, 341, 342, 343, 344, 360, 361, 362, 363, 364] rfl (by decide +kernel)
set_option maxRecDepth 100000 in
theorem gX6_frame_X6_takeFrame : GoodIn wsX6_frame (wsV RX6 108 RX6 yX6_takeFrame wsX6_takeFrame) := goodIn_app (goodIn_of _ (by decide +kernel)) ggX6_frame_X6_takeFrame
set_option maxRecDepth 100000 in
theorem ggX6_frame_X4_fault : GoodIn wsX6_frame wsX4_fault := goodIn_r _ [316, 14, 329, 330, 331, 332] rfl (by decide +kernel)
set_option maxRecDepth 100000 in
theorem gX6_frame_X4_fault : GoodIn wsX6_frame (wsV RX6 93 RX4 yX4_fault wsX4_fault) := goodIn_app (goodIn_of _ (by decide +kernel)) ggX6_frame_X4_fault
theorem dX6_frame_0 : decode cX6_frame 0 = .ok (.aload_n 0, 1) := by decide +kernel
theorem dX6_frame_1 : decode cX6_frame 1 = .ok (.getfield 96, 3) := by decide +kernel
theorem dX6_frame_4 : decode cX6_frame 4 = .ok (.ifCond .ne 13, 3) := by decide +kernel
theorem dX6_frame_7 : decode cX6_frame 7 = .ok (.new 60, 3) := by decide +kernel
theorem dX6_frame_10 : decode cX6_frame 10 = .ok (.dup, 1) := by decide +kernel
theorem dX6_frame_11 : decode cX6_frame 11 = .ok (.ldc 100, 2) := by decide +kernel
theorem dX6_frame_13 : decode cX6_frame 13 = .ok (.invokespecial 64, 3) := by decide +kernel
theorem dX6_frame_16 : decode cX6_frame 16 = .ok (.athrow, 1) := by decide +kernel
theorem dX6_frame_17 : decode cX6_frame 17 = .ok (.aload_n 0, 1) := by decide +kernel
theorem dX6_frame_18 : decode cX6_frame 18 = .ok (.getfield 12, 3) := by decide +kernel
theorem dX6_frame_21 : decode cX6_frame 21 = .ok (.invokevirtual 79, 3) := by decide +kernel
theorem dX6_frame_24 : decode cX6_frame 24 = .ok (.aload_n 0, 1) := by decide +kernel
theorem dX6_frame_25 : decode cX6_frame 25 = .ok (.getfield 40, 3) := by decide +kernel
theorem dX6_frame_28 : decode cX6_frame 28 = .ok (.aload_n 0, 1) := by decide +kernel
theorem dX6_frame_29 : decode cX6_frame 29 = .ok (.getfield 12, 3) := by decide +kernel
theorem dX6_frame_32 : decode cX6_frame 32 = .ok (.aload_n 0, 1) := by decide +kernel
theorem dX6_frame_33 : decode cX6_frame 33 = .ok (.getfield 26, 3) := by decide +kernel
theorem dX6_frame_36 : decode cX6_frame 36 = .ok (.aload_n 0, 1) := by decide +kernel
theorem dX6_frame_37 : decode cX6_frame 37 = .ok (.getfield 102, 3) := by decide +kernel
theorem dX6_frame_40 : decode cX6_frame 40 = .ok (.invokevirtual 105, 3) := by decide +kernel
theorem dX6_frame_43 : decode cX6_frame 43 = .ok (.aload_n 0, 1) := by decide +kernel
theorem dX6_frame_44 : decode cX6_frame 44 = .ok (.getfield 12, 3) := by decide +kernel
theorem dX6_frame_47 : decode cX6_frame 47 = .ok (.iconst 0, 1) := by decide +kernel
theorem dX6_frame_48 : decode cX6_frame 48 = .ok (.invokevirtual 76, 3) := by decide +kernel
theorem dX6_frame_51 : decode cX6_frame 51 = .ok (.aload_n 0, 1) := by decide +kernel
theorem dX6_frame_52 : decode cX6_frame 52 = .ok (.getfield 12, 3) := by decide +kernel
theorem dX6_frame_55 : decode cX6_frame 55 = .ok (.invokevirtual 86, 3) := by decide +kernel
theorem dX6_frame_58 : decode cX6_frame 58 = .ok (.ifCond .eq 7, 3) := by decide +kernel
theorem dX6_frame_61 : decode cX6_frame 61 = .ok (.aload_n 0, 1) := by decide +kernel
theorem dX6_frame_62 : decode cX6_frame 62 = .ok (.invokevirtual 108, 3) := by decide +kernel
theorem dX6_frame_65 : decode cX6_frame 65 = .ok (.aload_n 0, 1) := by decide +kernel
theorem dX6_frame_66 : decode cX6_frame 66 = .ok (.getfield 12, 3) := by decide +kernel
theorem dX6_frame_69 : decode cX6_frame 69 = .ok (.invokevirtual 93, 3) := by decide +kernel
theorem dX6_frame_72 : decode cX6_frame 72 = .ok (.ireturn, 1) := by decide +kernel
set_option maxRecDepth 100000 in
theorem ggX6_head_X1_columns : GoodIn wsX6_head wsX1_columns := goodIn_r _ [11, 12, 47, 48, 49, 50, 51, 52, 53, 54] rfl (by decide +kernel)
set_option maxRecDepth 100000 in
theorem gX6_head_X1_columns : GoodIn wsX6_head (wsV RX6 111 RX1 yX1_columns wsX1_columns) := goodIn_app (goodIn_of _ (by decide +kernel)) ggX6_head_X1_columns
set_option maxRecDepth 100000 in
theorem ggX6_head_X1_rows : GoodIn wsX6_head wsX1_rows := goodIn_r _ [16, 17, 47, 48, 49, 50, 51, 52, 53, 54] rfl (by decide +kernel)
set_option maxRecDepth 100000 in
theorem gX6_head_X1_rows : GoodIn wsX6_head (wsV RX6 114 RX1 yX1_rows wsX1_rows) := goodIn_app (goodIn_of _ (by decide +kernel)) ggX6_head_X1_rows
set_option maxRecDepth 100000 in
theorem ggX6_head_X1_limit : GoodIn wsX6_head wsX1_limit := goodIn_r _ [21, 22, 47, 48, 49, 50, 51, 52, 53, 54] rfl (by decide +kernel)
set_option maxRecDepth 100000 in
theorem gX6_head_X1_limit : GoodIn wsX6_head (wsV RX6 117 RX1 yX1_limit wsX1_limit) := goodIn_app (goodIn_of _ (by decide +kernel)) ggX6_head_X1_limit
set_option maxRecDepth 100000 in
theorem ggX6_head_X1_treeFor : GoodIn wsX6_head wsX1_treeFor := goodIn_r _ [26, 27, 28, 47, 48, 49, 50, 51, 52, 53, 54] rfl (by decide +kernel)
set_option maxRecDepth 100000 in
theorem gX6_head_X1_treeFor : GoodIn wsX6_head (wsV RX6 120 RX1 yX1_treeFor wsX1_treeFor) := goodIn_app (goodIn_of _ (by decide +kernel)) ggX6_head_X1_treeFor
set_option maxRecDepth 100000 in
theorem ggX6_head_X5_tokenCount : GoodIn wsX6_head wsX5_tokenCount := goodIn_r _ [33, 34, 55, 56, 57, 58] rfl (by decide +kernel)
set_option maxRecDepth 100000 in
theorem gX6_head_X5_tokenCount : GoodIn wsX6_head (wsV RX6 124 RX5 yX5_tokenCount wsX5_tokenCount) := goodIn_app (goodIn_of _ (by decide +kernel)) ggX6_head_X5_tokenCount
theorem dX6_head_0 : decode cX6_head 0 = .ok (.aload_n 0, 1) := by decide +kernel
theorem dX6_head_1 : decode cX6_head 1 = .ok (.getfield 96, 3) := by decide +kernel
theorem dX6_head_4 : decode cX6_head 4 = .ok (.ifCond .ne 13, 3) := by decide +kernel
theorem dX6_head_7 : decode cX6_head 7 = .ok (.new 60, 3) := by decide +kernel
theorem dX6_head_10 : decode cX6_head 10 = .ok (.dup, 1) := by decide +kernel
theorem dX6_head_11 : decode cX6_head 11 = .ok (.ldc 100, 2) := by decide +kernel
theorem dX6_head_13 : decode cX6_head 13 = .ok (.invokespecial 64, 3) := by decide +kernel
theorem dX6_head_16 : decode cX6_head 16 = .ok (.athrow, 1) := by decide +kernel
theorem dX6_head_17 : decode cX6_head 17 = .ok (.iload_n 1, 1) := by decide +kernel
theorem dX6_head_18 : decode cX6_head 18 = .ok (.tableswitch 82 0 4 #[34, 42, 50, 58, 70], 34) := by decide +kernel
theorem dX6_head_52 : decode cX6_head 52 = .ok (.aload_n 0, 1) := by decide +kernel
theorem dX6_head_53 : decode cX6_head 53 = .ok (.getfield 26, 3) := by decide +kernel
theorem dX6_head_56 : decode cX6_head 56 = .ok (.invokevirtual 111, 3) := by decide +kernel
theorem dX6_head_59 : decode cX6_head 59 = .ok (.ireturn, 1) := by decide +kernel
theorem dX6_head_60 : decode cX6_head 60 = .ok (.aload_n 0, 1) := by decide +kernel
theorem dX6_head_61 : decode cX6_head 61 = .ok (.getfield 26, 3) := by decide +kernel
theorem dX6_head_64 : decode cX6_head 64 = .ok (.invokevirtual 114, 3) := by decide +kernel
theorem dX6_head_67 : decode cX6_head 67 = .ok (.ireturn, 1) := by decide +kernel
theorem dX6_head_68 : decode cX6_head 68 = .ok (.aload_n 0, 1) := by decide +kernel
theorem dX6_head_69 : decode cX6_head 69 = .ok (.getfield 26, 3) := by decide +kernel
theorem dX6_head_72 : decode cX6_head 72 = .ok (.invokevirtual 117, 3) := by decide +kernel
theorem dX6_head_75 : decode cX6_head 75 = .ok (.ireturn, 1) := by decide +kernel
theorem dX6_head_76 : decode cX6_head 76 = .ok (.aload_n 0, 1) := by decide +kernel
theorem dX6_head_77 : decode cX6_head 77 = .ok (.getfield 26, 3) := by decide +kernel
theorem dX6_head_80 : decode cX6_head 80 = .ok (.iconst 0, 1) := by decide +kernel
theorem dX6_head_81 : decode cX6_head 81 = .ok (.invokevirtual 120, 3) := by decide +kernel
theorem dX6_head_84 : decode cX6_head 84 = .ok (.invokevirtual 124, 3) := by decide +kernel
theorem dX6_head_87 : decode cX6_head 87 = .ok (.ireturn, 1) := by decide +kernel
theorem dX6_head_88 : decode cX6_head 88 = .ok (.aload_n 0, 1) := by decide +kernel
theorem dX6_head_89 : decode cX6_head 89 = .ok (.getfield 26, 3) := by decide +kernel
theorem dX6_head_92 : decode cX6_head 92 = .ok (.iconst 1, 1) := by decide +kernel
theorem dX6_head_93 : decode cX6_head 93 = .ok (.invokevirtual 120, 3) := by decide +kernel
theorem dX6_head_96 : decode cX6_head 96 = .ok (.invokevirtual 124, 3) := by decide +kernel
theorem dX6_head_99 : decode cX6_head 99 = .ok (.ireturn, 1) := by decide +kernel
theorem dX6_head_100 : decode cX6_head 100 = .ok (.new 71, 3) := by decide +kernel
theorem dX6_head_103 : decode cX6_head 103 = .ok (.dup, 1) := by decide +kernel
theorem dX6_head_104 : decode cX6_head 104 = .ok (.ldc 129, 2) := by decide +kernel
theorem dX6_head_106 : decode cX6_head 106 = .ok (.invokespecial 75, 3) := by decide +kernel
theorem dX6_head_109 : decode cX6_head 109 = .ok (.athrow, 1) := by decide +kernel
theorem dX6_frames_0 : decode cX6_frames 0 = .ok (.aload_n 0, 1) := by decide +kernel
theorem dX6_frames_1 : decode cX6_frames 1 = .ok (.getfield 131, 3) := by decide +kernel
theorem dX6_frames_4 : decode cX6_frames 4 = .ok (.ireturn, 1) := by decide +kernel
set_option maxRecDepth 100000 in
theorem ggX6_sample_X3_has : GoodIn wsX6_sample wsX3_has := goodIn_r _ [12, 13, 14, 42, 43, 44] rfl (by decide +kernel)
set_option maxRecDepth 100000 in
theorem gX6_sample_X3_has : GoodIn wsX6_sample (wsV RX6 137 RX3 yX3_has wsX3_has) := goodIn_app (goodIn_of _ (by decide +kernel)) ggX6_sample_X3_has
set_option maxRecDepth 100000 in
theorem ggX6_sample_X3_at : GoodIn wsX6_sample wsX3_at := goodIn_r _ [18, 19, 14, 13, 20, 21, 22, 23, 24, 25, 26, 27, 28, 29, 42, 43, 44] rfl (by decide +kernel)
set_option maxRecDepth 100000 in
theorem gX6_sample_X3_at : GoodIn wsX6_sample (wsV RX6 146 RX3 yX3_at wsX3_at) := goodIn_app (goodIn_of _ (by decide +kernel)) ggX6_sample_X3_at
theorem dX6_sample_0 : decode cX6_sample 0 = .ok (.aload_n 0, 1) := by decide +kernel
theorem dX6_sample_1 : decode cX6_sample 1 = .ok (.getfield 102, 3) := by decide +kernel
theorem dX6_sample_4 : decode cX6_sample 4 = .ok (.ifCond .ne 13, 3) := by decide +kernel
theorem dX6_sample_7 : decode cX6_sample 7 = .ok (.new 60, 3) := by decide +kernel
theorem dX6_sample_10 : decode cX6_sample 10 = .ok (.dup, 1) := by decide +kernel
theorem dX6_sample_11 : decode cX6_sample 11 = .ok (.ldc 135, 2) := by decide +kernel
theorem dX6_sample_13 : decode cX6_sample 13 = .ok (.invokespecial 64, 3) := by decide +kernel
theorem dX6_sample_16 : decode cX6_sample 16 = .ok (.athrow, 1) := by decide +kernel
theorem dX6_sample_17 : decode cX6_sample 17 = .ok (.aload_n 0, 1) := by decide +kernel
theorem dX6_sample_18 : decode cX6_sample 18 = .ok (.getfield 46, 3) := by decide +kernel
theorem dX6_sample_21 : decode cX6_sample 21 = .ok (.iload_n 1, 1) := by decide +kernel
theorem dX6_sample_22 : decode cX6_sample 22 = .ok (.iload_n 2, 1) := by decide +kernel
theorem dX6_sample_23 : decode cX6_sample 23 = .ok (.invokevirtual 137, 3) := by decide +kernel
theorem dX6_sample_26 : decode cX6_sample 26 = .ok (.ifCond .ne 13, 3) := by decide +kernel
theorem dX6_sample_29 : decode cX6_sample 29 = .ok (.new 141, 3) := by decide +kernel
theorem dX6_sample_32 : decode cX6_sample 32 = .ok (.dup, 1) := by decide +kernel
theorem dX6_sample_33 : decode cX6_sample 33 = .ok (.ldc 143, 2) := by decide +kernel
theorem dX6_sample_35 : decode cX6_sample 35 = .ok (.invokespecial 145, 3) := by decide +kernel
theorem dX6_sample_38 : decode cX6_sample 38 = .ok (.athrow, 1) := by decide +kernel
theorem dX6_sample_39 : decode cX6_sample 39 = .ok (.iload_n 3, 1) := by decide +kernel
theorem dX6_sample_40 : decode cX6_sample 40 = .ok (.ifCond .eq 15, 3) := by decide +kernel
theorem dX6_sample_43 : decode cX6_sample 43 = .ok (.aload_n 0, 1) := by decide +kernel
theorem dX6_sample_44 : decode cX6_sample 44 = .ok (.getfield 53, 3) := by decide +kernel
theorem dX6_sample_47 : decode cX6_sample 47 = .ok (.iload_n 1, 1) := by decide +kernel
theorem dX6_sample_48 : decode cX6_sample 48 = .ok (.iload_n 2, 1) := by decide +kernel
theorem dX6_sample_49 : decode cX6_sample 49 = .ok (.invokevirtual 146, 3) := by decide +kernel
theorem dX6_sample_52 : decode cX6_sample 52 = .ok (.goto 12, 3) := by decide +kernel
theorem dX6_sample_55 : decode cX6_sample 55 = .ok (.aload_n 0, 1) := by decide +kernel
theorem dX6_sample_56 : decode cX6_sample 56 = .ok (.getfield 46, 3) := by decide +kernel
theorem dX6_sample_59 : decode cX6_sample 59 = .ok (.iload_n 1, 1) := by decide +kernel
theorem dX6_sample_60 : decode cX6_sample 60 = .ok (.iload_n 2, 1) := by decide +kernel
theorem dX6_sample_61 : decode cX6_sample 61 = .ok (.invokevirtual 146, 3) := by decide +kernel
theorem dX6_sample_64 : decode cX6_sample 64 = .ok (.ireturn, 1) := by decide +kernel
set_option maxRecDepth 100000 in
theorem ggX6_block_X0_has : GoodIn wsX6_block wsX0_has := goodIn_r _ [13, 14, 15, 52, 53, 54, 55, 56, 57, 58, 59, 60, 61, 62, 63] rfl (by decide +kernel)
set_option maxRecDepth 100000 in
theorem gX6_block_X0_has : GoodIn wsX6_block (wsV RX6 150 RX0 yX0_has wsX0_has) := goodIn_app (goodIn_of _ (by decide +kernel)) ggX6_block_X0_has
set_option maxRecDepth 100000 in
theorem ggX6_block_X0_index : GoodIn wsX6_block wsX0_index := goodIn_r _ [19, 14, 52, 53, 54, 55, 56, 57, 58, 59, 60, 61, 62, 63] rfl (by decide +kernel)
set_option maxRecDepth 100000 in
theorem gX6_block_X0_index : GoodIn wsX6_block (wsV RX6 153 RX0 yX0_index wsX0_index) := goodIn_app (goodIn_of _ (by decide +kernel)) ggX6_block_X0_index
set_option maxRecDepth 100000 in
theorem ggX6_block_X0_mode : GoodIn wsX6_block wsX0_mode := goodIn_r _ [23, 24, 52, 53, 54, 55, 56, 57, 58, 59, 60, 61, 62, 63] rfl (by decide +kernel)
