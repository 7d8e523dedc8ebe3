theorem dX7_readHeader_231 : decode cX7_readHeader 231 = .ok (.getfield 26, 3) := by decide +kernel
theorem dX7_readHeader_234 : decode cX7_readHeader 234 = .ok (.sipush 256, 3) := by decide +kernel
theorem dX7_readHeader_237 : decode cX7_readHeader 237 = .ok (.iload 4, 2) := by decide +kernel
theorem dX7_readHeader_239 : decode cX7_readHeader 239 = .ok (.imul, 1) := by decide +kernel
theorem dX7_readHeader_240 : decode cX7_readHeader 240 = .ok (.iload 5, 2) := by decide +kernel
theorem dX7_readHeader_242 : decode cX7_readHeader 242 = .ok (.iadd, 1) := by decide +kernel
theorem dX7_readHeader_243 : decode cX7_readHeader 243 = .ok (.iload 6, 2) := by decide +kernel
theorem dX7_readHeader_245 : decode cX7_readHeader 245 = .ok (.ifCond .lt 19, 3) := by decide +kernel
theorem dX7_readHeader_248 : decode cX7_readHeader 248 = .ok (.iload 6, 2) := by decide +kernel
theorem dX7_readHeader_250 : decode cX7_readHeader 250 = .ok (.bipush 99, 2) := by decide +kernel
theorem dX7_readHeader_252 : decode cX7_readHeader 252 = .ok (.if_icmp .eq 12, 3) := by decide +kernel
theorem dX7_readHeader_255 : decode cX7_readHeader 255 = .ok (.iload 6, 2) := by decide +kernel
theorem dX7_readHeader_257 : decode cX7_readHeader 257 = .ok (.sipush 256, 3) := by decide +kernel
theorem dX7_readHeader_260 : decode cX7_readHeader 260 = .ok (.isub, 1) := by decide +kernel
theorem dX7_readHeader_261 : decode cX7_readHeader 261 = .ok (.goto 5, 3) := by decide +kernel
theorem dX7_readHeader_264 : decode cX7_readHeader 264 = .ok (.iload 6, 2) := by decide +kernel
theorem dX7_readHeader_266 : decode cX7_readHeader 266 = .ok (.iastore, 1) := by decide +kernel
theorem dX7_readHeader_267 : decode cX7_readHeader 267 = .ok (.iinc 5 1, 3) := by decide +kernel
theorem dX7_readHeader_270 : decode cX7_readHeader 270 = .ok (.goto (-68), 3) := by decide +kernel
theorem dX7_readHeader_273 : decode cX7_readHeader 273 = .ok (.aload_n 0, 1) := by decide +kernel
theorem dX7_readHeader_274 : decode cX7_readHeader 274 = .ok (.getfield 29, 3) := by decide +kernel
theorem dX7_readHeader_277 : decode cX7_readHeader 277 = .ok (.iload 4, 2) := by decide +kernel
theorem dX7_readHeader_279 : decode cX7_readHeader 279 = .ok (.aload_n 0, 1) := by decide +kernel
theorem dX7_readHeader_280 : decode cX7_readHeader 280 = .ok (.getfield 29, 3) := by decide +kernel
theorem dX7_readHeader_283 : decode cX7_readHeader 283 = .ok (.iload 4, 2) := by decide +kernel
theorem dX7_readHeader_285 : decode cX7_readHeader 285 = .ok (.iconst 2, 1) := by decide +kernel
theorem dX7_readHeader_286 : decode cX7_readHeader 286 = .ok (.iadd, 1) := by decide +kernel
theorem dX7_readHeader_287 : decode cX7_readHeader 287 = .ok (.iaload, 1) := by decide +kernel
theorem dX7_readHeader_288 : decode cX7_readHeader 288 = .ok (.ifCond .lt 19, 3) := by decide +kernel
theorem dX7_readHeader_291 : decode cX7_readHeader 291 = .ok (.aload_n 0, 1) := by decide +kernel
theorem dX7_readHeader_292 : decode cX7_readHeader 292 = .ok (.getfield 29, 3) := by decide +kernel
theorem dX7_readHeader_295 : decode cX7_readHeader 295 = .ok (.iload 4, 2) := by decide +kernel
theorem dX7_readHeader_297 : decode cX7_readHeader 297 = .ok (.iconst 2, 1) := by decide +kernel
theorem dX7_readHeader_298 : decode cX7_readHeader 298 = .ok (.iadd, 1) := by decide +kernel
theorem dX7_readHeader_299 : decode cX7_readHeader 299 = .ok (.iaload, 1) := by decide +kernel
theorem dX7_readHeader_300 : decode cX7_readHeader 300 = .ok (.sipush 256, 3) := by decide +kernel
theorem dX7_readHeader_303 : decode cX7_readHeader 303 = .ok (.isub, 1) := by decide +kernel
theorem dX7_readHeader_304 : decode cX7_readHeader 304 = .ok (.goto 12, 3) := by decide +kernel
theorem dX7_readHeader_307 : decode cX7_readHeader 307 = .ok (.aload_n 0, 1) := by decide +kernel
theorem dX7_readHeader_308 : decode cX7_readHeader 308 = .ok (.getfield 29, 3) := by decide +kernel
theorem dX7_readHeader_311 : decode cX7_readHeader 311 = .ok (.iload 4, 2) := by decide +kernel
theorem dX7_readHeader_313 : decode cX7_readHeader 313 = .ok (.iconst 2, 1) := by decide +kernel
theorem dX7_readHeader_314 : decode cX7_readHeader 314 = .ok (.iadd, 1) := by decide +kernel
theorem dX7_readHeader_315 : decode cX7_readHeader 315 = .ok (.iaload, 1) := by decide +kernel
theorem dX7_readHeader_316 : decode cX7_readHeader 316 = .ok (.iastore, 1) := by decide +kernel
theorem dX7_readHeader_317 : decode cX7_readHeader 317 = .ok (.aload_n 0, 1) := by decide +kernel
theorem dX7_readHeader_318 : decode cX7_readHeader 318 = .ok (.getfield 32, 3) := by decide +kernel
theorem dX7_readHeader_321 : decode cX7_readHeader 321 = .ok (.iload 4, 2) := by decide +kernel
theorem dX7_readHeader_323 : decode cX7_readHeader 323 = .ok (.aload_n 0, 1) := by decide +kernel
theorem dX7_readHeader_324 : decode cX7_readHeader 324 = .ok (.getfield 32, 3) := by decide +kernel
theorem dX7_readHeader_327 : decode cX7_readHeader 327 = .ok (.iload 4, 2) := by decide +kernel
theorem dX7_readHeader_329 : decode cX7_readHeader 329 = .ok (.iconst 2, 1) := by decide +kernel
theorem dX7_readHeader_330 : decode cX7_readHeader 330 = .ok (.iadd, 1) := by decide +kernel
theorem dX7_readHeader_331 : decode cX7_readHeader 331 = .ok (.iaload, 1) := by decide +kernel
theorem dX7_readHeader_332 : decode cX7_readHeader 332 = .ok (.iastore, 1) := by decide +kernel
theorem dX7_readHeader_333 : decode cX7_readHeader 333 = .ok (.iinc 4 1, 3) := by decide +kernel
theorem dX7_readHeader_336 : decode cX7_readHeader 336 = .ok (.goto (-143), 3) := by decide +kernel
theorem dX7_readHeader_339 : decode cX7_readHeader 339 = .ok (.return_, 1) := by decide +kernel
set_option maxRecDepth 100000 in
theorem ggX7_header_X7_readHeader : GoodIn wsX7_header wsX7_readHeader := goodIn_r _ [13, 14, 15, 3, 16, 17, 18, 19, 20, 21, 22, 23, 24, 25, 26, 12, 27, 28, 29, 30, 31, 2, 5, 32, 33, 34, 35, 36, 37, 38, 39, 40, 41, 50, 51, 52, 53, 54, 55, 56, 57, 58, 59, 60, 61, 62, 63, 64, 65, 66, 67, 68, 69, 70, 71, 72, 73, 74, 75, 76, 77, 78, 79, 80, 81, 82, 83, 84, 85, 86, 87, 88, 89, 90, 91] rfl (by decide +kernel)
set_option maxRecDepth 100000 in
theorem gX7_header_X7_readHeader : GoodIn wsX7_header (wsV RX7 146 RX7 yX7_readHeader wsX7_readHeader) := goodIn_app (goodIn_of _ (by decide +kernel)) ggX7_header_X7_readHeader
set_option maxRecDepth 100000 in
theorem ggX7_header_X7_putInOrder : GoodIn wsX7_header wsX7_putInOrder := goodIn_r _ [45, 46, 17, 16, 47, 48, 49, 50, 51, 52, 53, 54, 55, 56, 57, 58, 59, 60, 61, 62, 63, 64, 65, 66, 67, 68, 69, 70, 71, 72, 73, 74, 75, 76, 77, 78, 79, 80, 81, 82, 83, 84, 85, 86, 87, 88, 89, 90, 91] rfl (by decide +kernel)
set_option maxRecDepth 100000 in
theorem gX7_header_X7_putInOrder : GoodIn wsX7_header (wsV RX7 162 RX7 yX7_putInOrder wsX7_putInOrder) := goodIn_app (goodIn_of _ (by decide +kernel)) ggX7_header_X7_putInOrder
theorem dX7_header_0 : decode cX7_header 0 = .ok (.aload_n 0, 1) := by decide +kernel
theorem dX7_header_1 : decode cX7_header 1 = .ok (.iconst 0, 1) := by decide +kernel
theorem dX7_header_2 : decode cX7_header 2 = .ok (.putfield 103, 3) := by decide +kernel
theorem dX7_header_5 : decode cX7_header 5 = .ok (.aload_n 0, 1) := by decide +kernel
theorem dX7_header_6 : decode cX7_header 6 = .ok (.iconst 0, 1) := by decide +kernel
theorem dX7_header_7 : decode cX7_header 7 = .ok (.putfield 120, 3) := by decide +kernel
theorem dX7_header_10 : decode cX7_header 10 = .ok (.aload_n 0, 1) := by decide +kernel
theorem dX7_header_11 : decode cX7_header 11 = .ok (.iconst 0, 1) := by decide +kernel
theorem dX7_header_12 : decode cX7_header 12 = .ok (.putfield 117, 3) := by decide +kernel
theorem dX7_header_15 : decode cX7_header 15 = .ok (.aload_n 0, 1) := by decide +kernel
theorem dX7_header_16 : decode cX7_header 16 = .ok (.invokevirtual 146, 3) := by decide +kernel
theorem dX7_header_19 : decode cX7_header 19 = .ok (.aload_n 0, 1) := by decide +kernel
theorem dX7_header_20 : decode cX7_header 20 = .ok (.aload_n 0, 1) := by decide +kernel
theorem dX7_header_21 : decode cX7_header 21 = .ok (.getfield 120, 3) := by decide +kernel
theorem dX7_header_24 : decode cX7_header 24 = .ok (.putfield 149, 3) := by decide +kernel
theorem dX7_header_27 : decode cX7_header 27 = .ok (.aload_n 0, 1) := by decide +kernel
theorem dX7_header_28 : decode cX7_header 28 = .ok (.iconst 0, 1) := by decide +kernel
theorem dX7_header_29 : decode cX7_header 29 = .ok (.putfield 106, 3) := by decide +kernel
theorem dX7_header_32 : decode cX7_header 32 = .ok (.aload_n 0, 1) := by decide +kernel
theorem dX7_header_33 : decode cX7_header 33 = .ok (.getfield 117, 3) := by decide +kernel
theorem dX7_header_36 : decode cX7_header 36 = .ok (.ifCond .ne 22, 3) := by decide +kernel
theorem dX7_header_39 : decode cX7_header 39 = .ok (.aload_n 0, 1) := by decide +kernel
theorem dX7_header_40 : decode cX7_header 40 = .ok (.iconst 1, 1) := by decide +kernel
theorem dX7_header_41 : decode cX7_header 41 = .ok (.putfield 152, 3) := by decide +kernel
theorem dX7_header_44 : decode cX7_header 44 = .ok (.aload_n 0, 1) := by decide +kernel
theorem dX7_header_45 : decode cX7_header 45 = .ok (.iconst 0, 1) := by decide +kernel
theorem dX7_header_46 : decode cX7_header 46 = .ok (.putfield 156, 3) := by decide +kernel
theorem dX7_header_49 : decode cX7_header 49 = .ok (.aload_n 0, 1) := by decide +kernel
theorem dX7_header_50 : decode cX7_header 50 = .ok (.iconst 0, 1) := by decide +kernel
theorem dX7_header_51 : decode cX7_header 51 = .ok (.putfield 159, 3) := by decide +kernel
theorem dX7_header_54 : decode cX7_header 54 = .ok (.aload_n 0, 1) := by decide +kernel
theorem dX7_header_55 : decode cX7_header 55 = .ok (.invokevirtual 162, 3) := by decide +kernel
theorem dX7_header_58 : decode cX7_header 58 = .ok (.aload_n 0, 1) := by decide +kernel
theorem dX7_header_59 : decode cX7_header 59 = .ok (.getfield 117, 3) := by decide +kernel
theorem dX7_header_62 : decode cX7_header 62 = .ok (.ireturn, 1) := by decide +kernel
theorem dX7_putInOrder_0 : decode cX7_putInOrder 0 = .ok (.aload_n 0, 1) := by decide +kernel
theorem dX7_putInOrder_1 : decode cX7_putInOrder 1 = .ok (.iconst 0, 1) := by decide +kernel
theorem dX7_putInOrder_2 : decode cX7_putInOrder 2 = .ok (.putfield 99, 3) := by decide +kernel
theorem dX7_putInOrder_5 : decode cX7_putInOrder 5 = .ok (.iconst 0, 1) := by decide +kernel
theorem dX7_putInOrder_6 : decode cX7_putInOrder 6 = .ok (.istore_n 1, 1) := by decide +kernel
theorem dX7_putInOrder_7 : decode cX7_putInOrder 7 = .ok (.iload_n 1, 1) := by decide +kernel
theorem dX7_putInOrder_8 : decode cX7_putInOrder 8 = .ok (.aload_n 0, 1) := by decide +kernel
theorem dX7_putInOrder_9 : decode cX7_putInOrder 9 = .ok (.getfield 140, 3) := by decide +kernel
theorem dX7_putInOrder_12 : decode cX7_putInOrder 12 = .ok (.if_icmp .ge 104, 3) := by decide +kernel
theorem dX7_putInOrder_15 : decode cX7_putInOrder 15 = .ok (.iconst 0, 1) := by decide +kernel
theorem dX7_putInOrder_16 : decode cX7_putInOrder 16 = .ok (.istore_n 2, 1) := by decide +kernel
theorem dX7_putInOrder_17 : decode cX7_putInOrder 17 = .ok (.iload_n 2, 1) := by decide +kernel
theorem dX7_putInOrder_18 : decode cX7_putInOrder 18 = .ok (.aload_n 0, 1) := by decide +kernel
theorem dX7_putInOrder_19 : decode cX7_putInOrder 19 = .ok (.getfield 137, 3) := by decide +kernel
theorem dX7_putInOrder_22 : decode cX7_putInOrder 22 = .ok (.if_icmp .ge 88, 3) := by decide +kernel
theorem dX7_putInOrder_25 : decode cX7_putInOrder 25 = .ok (.iconst 0, 1) := by decide +kernel
theorem dX7_putInOrder_26 : decode cX7_putInOrder 26 = .ok (.istore_n 3, 1) := by decide +kernel
theorem dX7_putInOrder_27 : decode cX7_putInOrder 27 = .ok (.iload_n 3, 1) := by decide +kernel
theorem dX7_putInOrder_28 : decode cX7_putInOrder 28 = .ok (.bipush 16, 2) := by decide +kernel
theorem dX7_putInOrder_30 : decode cX7_putInOrder 30 = .ok (.if_icmp .ge 74, 3) := by decide +kernel
theorem dX7_putInOrder_33 : decode cX7_putInOrder 33 = .ok (.iload_n 2, 1) := by decide +kernel
theorem dX7_putInOrder_34 : decode cX7_putInOrder 34 = .ok (.aload_n 0, 1) := by decide +kernel
theorem dX7_putInOrder_35 : decode cX7_putInOrder 35 = .ok (.getfield 93, 3) := by decide +kernel
theorem dX7_putInOrder_38 : decode cX7_putInOrder 38 = .ok (.iload_n 3, 1) := by decide +kernel
theorem dX7_putInOrder_39 : decode cX7_putInOrder 39 = .ok (.iaload, 1) := by decide +kernel
theorem dX7_putInOrder_40 : decode cX7_putInOrder 40 = .ok (.iadd, 1) := by decide +kernel
theorem dX7_putInOrder_41 : decode cX7_putInOrder 41 = .ok (.istore 4, 2) := by decide +kernel
theorem dX7_putInOrder_43 : decode cX7_putInOrder 43 = .ok (.iload_n 1, 1) := by decide +kernel
theorem dX7_putInOrder_44 : decode cX7_putInOrder 44 = .ok (.aload_n 0, 1) := by decide +kernel
theorem dX7_putInOrder_45 : decode cX7_putInOrder 45 = .ok (.getfield 96, 3) := by decide +kernel
theorem dX7_putInOrder_48 : decode cX7_putInOrder 48 = .ok (.iload_n 3, 1) := by decide +kernel
theorem dX7_putInOrder_49 : decode cX7_putInOrder 49 = .ok (.iaload, 1) := by decide +kernel
theorem dX7_putInOrder_50 : decode cX7_putInOrder 50 = .ok (.iadd, 1) := by decide +kernel
theorem dX7_putInOrder_51 : decode cX7_putInOrder 51 = .ok (.istore 5, 2) := by decide +kernel
theorem dX7_putInOrder_53 : decode cX7_putInOrder 53 = .ok (.iload 4, 2) := by decide +kernel
theorem dX7_putInOrder_55 : decode cX7_putInOrder 55 = .ok (.aload_n 0, 1) := by decide +kernel
theorem dX7_putInOrder_56 : decode cX7_putInOrder 56 = .ok (.getfield 137, 3) := by decide +kernel
theorem dX7_putInOrder_59 : decode cX7_putInOrder 59 = .ok (.if_icmp .ge 39, 3) := by decide +kernel
theorem dX7_putInOrder_62 : decode cX7_putInOrder 62 = .ok (.iload 5, 2) := by decide +kernel
theorem dX7_putInOrder_64 : decode cX7_putInOrder 64 = .ok (.aload_n 0, 1) := by decide +kernel
theorem dX7_putInOrder_65 : decode cX7_putInOrder 65 = .ok (.getfield 140, 3) := by decide +kernel
theorem dX7_putInOrder_68 : decode cX7_putInOrder 68 = .ok (.if_icmp .ge 30, 3) := by decide +kernel
theorem dX7_putInOrder_71 : decode cX7_putInOrder 71 = .ok (.aload_n 0, 1) := by decide +kernel
theorem dX7_putInOrder_72 : decode cX7_putInOrder 72 = .ok (.getfield 47, 3) := by decide +kernel
theorem dX7_putInOrder_75 : decode cX7_putInOrder 75 = .ok (.aload_n 0, 1) := by decide +kernel
theorem dX7_putInOrder_76 : decode cX7_putInOrder 76 = .ok (.getfield 99, 3) := by decide +kernel
theorem dX7_putInOrder_79 : decode cX7_putInOrder 79 = .ok (.bipush 6, 2) := by decide +kernel
theorem dX7_putInOrder_81 : decode cX7_putInOrder 81 = .ok (.iload 5, 2) := by decide +kernel
theorem dX7_putInOrder_83 : decode cX7_putInOrder 83 = .ok (.imul, 1) := by decide +kernel
theorem dX7_putInOrder_84 : decode cX7_putInOrder 84 = .ok (.iload 4, 2) := by decide +kernel
theorem dX7_putInOrder_86 : decode cX7_putInOrder 86 = .ok (.iadd, 1) := by decide +kernel
theorem dX7_putInOrder_87 : decode cX7_putInOrder 87 = .ok (.iastore, 1) := by decide +kernel
theorem dX7_putInOrder_88 : decode cX7_putInOrder 88 = .ok (.aload_n 0, 1) := by decide +kernel
theorem dX7_putInOrder_89 : decode cX7_putInOrder 89 = .ok (.dup, 1) := by decide +kernel
theorem dX7_putInOrder_90 : decode cX7_putInOrder 90 = .ok (.getfield 99, 3) := by decide +kernel
theorem dX7_putInOrder_93 : decode cX7_putInOrder 93 = .ok (.iconst 1, 1) := by decide +kernel
theorem dX7_putInOrder_94 : decode cX7_putInOrder 94 = .ok (.iadd, 1) := by decide +kernel
theorem dX7_putInOrder_95 : decode cX7_putInOrder 95 = .ok (.putfield 99, 3) := by decide +kernel
theorem dX7_putInOrder_98 : decode cX7_putInOrder 98 = .ok (.iinc 3 1, 3) := by decide +kernel
theorem dX7_putInOrder_101 : decode cX7_putInOrder 101 = .ok (.goto (-74), 3) := by decide +kernel
theorem dX7_putInOrder_104 : decode cX7_putInOrder 104 = .ok (.iinc 2 4, 3) := by decide +kernel
theorem dX7_putInOrder_107 : decode cX7_putInOrder 107 = .ok (.goto (-90), 3) := by decide +kernel
theorem dX7_putInOrder_110 : decode cX7_putInOrder 110 = .ok (.iinc 1 4, 3) := by decide +kernel
theorem dX7_putInOrder_113 : decode cX7_putInOrder 113 = .ok (.goto (-106), 3) := by decide +kernel
theorem dX7_putInOrder_116 : decode cX7_putInOrder 116 = .ok (.return_, 1) := by decide +kernel
set_option maxRecDepth 100000 in
theorem ggX7_readRun_X7_bit : GoodIn wsX7_readRun wsX7_bit := goodIn_r _ [5, 6, 7, 8, 9, 10, 11, 12, 4, 13, 18, 19, 20, 21, 22, 23, 24, 25, 26, 27, 28, 29, 30, 31, 32, 33, 34, 35, 36, 37, 38, 39, 40, 41, 42, 43, 44, 45, 46, 47, 48, 49, 50, 51, 52, 53, 54, 55, 56, 57, 58, 59] rfl (by decide +kernel)
set_option maxRecDepth 100000 in
theorem gX7_readRun_X7_bit : GoodIn wsX7_readRun (wsV RX7 126 RX7 yX7_bit wsX7_bit) := goodIn_app (goodIn_of _ (by decide +kernel)) ggX7_readRun_X7_bit
set_option maxRecDepth 100000 in
theorem ggX7_readRun_X7_bits : GoodIn wsX7_readRun wsX7_bits := goodIn_r _ [17, 1, 2, 3, 4, 5, 6, 7, 8, 9, 10, 11, 12, 13, 18, 19, 20, 21, 22, 23, 24, 25, 26, 27, 28, 29, 30, 31, 32, 33, 34, 35, 36, 37, 38, 39, 40, 41, 42, 43, 44, 45, 46, 47, 48, 49, 50, 51, 52, 53, 54, 55, 56, 57, 58, 59] rfl (by decide +kernel)
set_option maxRecDepth 100000 in
theorem gX7_readRun_X7_bits : GoodIn wsX7_readRun (wsV RX7 130 RX7 yX7_bits wsX7_bits) := goodIn_app (goodIn_of _ (by decide +kernel)) ggX7_readRun_X7_bits
theorem dX7_readRun_0 : decode cX7_readRun 0 = .ok (.aload_n 0, 1) := by decide +kernel
theorem dX7_readRun_1 : decode cX7_readRun 1 = .ok (.invokevirtual 126, 3) := by decide +kernel
theorem dX7_readRun_4 : decode cX7_readRun 4 = .ok (.ifCond .ne 5, 3) := by decide +kernel
theorem dX7_readRun_7 : decode cX7_readRun 7 = .ok (.iconst 1, 1) := by decide +kernel
theorem dX7_readRun_8 : decode cX7_readRun 8 = .ok (.ireturn, 1) := by decide +kernel
theorem dX7_readRun_9 : decode cX7_readRun 9 = .ok (.aload_n 0, 1) := by decide +kernel
theorem dX7_readRun_10 : decode cX7_readRun 10 = .ok (.invokevirtual 126, 3) := by decide +kernel
theorem dX7_readRun_13 : decode cX7_readRun 13 = .ok (.ifCond .ne 10, 3) := by decide +kernel
theorem dX7_readRun_16 : decode cX7_readRun 16 = .ok (.iconst 2, 1) := by decide +kernel
theorem dX7_readRun_17 : decode cX7_readRun 17 = .ok (.aload_n 0, 1) := by decide +kernel
theorem dX7_readRun_18 : decode cX7_readRun 18 = .ok (.invokevirtual 126, 3) := by decide +kernel
theorem dX7_readRun_21 : decode cX7_readRun 21 = .ok (.iadd, 1) := by decide +kernel
theorem dX7_readRun_22 : decode cX7_readRun 22 = .ok (.ireturn, 1) := by decide +kernel
theorem dX7_readRun_23 : decode cX7_readRun 23 = .ok (.aload_n 0, 1) := by decide +kernel
theorem dX7_readRun_24 : decode cX7_readRun 24 = .ok (.invokevirtual 126, 3) := by decide +kernel
theorem dX7_readRun_27 : decode cX7_readRun 27 = .ok (.ifCond .ne 13, 3) := by decide +kernel
theorem dX7_readRun_30 : decode cX7_readRun 30 = .ok (.iconst 4, 1) := by decide +kernel
theorem dX7_readRun_31 : decode cX7_readRun 31 = .ok (.aload_n 0, 1) := by decide +kernel
theorem dX7_readRun_32 : decode cX7_readRun 32 = .ok (.iconst 2, 1) := by decide +kernel
theorem dX7_readRun_33 : decode cX7_readRun 33 = .ok (.invokevirtual 130, 3) := by decide +kernel
theorem dX7_readRun_36 : decode cX7_readRun 36 = .ok (.iadd, 1) := by decide +kernel
theorem dX7_readRun_37 : decode cX7_readRun 37 = .ok (.goto 11, 3) := by decide +kernel
theorem dX7_readRun_40 : decode cX7_readRun 40 = .ok (.bipush 8, 2) := by decide +kernel
theorem dX7_readRun_42 : decode cX7_readRun 42 = .ok (.aload_n 0, 1) := by decide +kernel
theorem dX7_readRun_43 : decode cX7_readRun 43 = .ok (.iconst 5, 1) := by decide +kernel
theorem dX7_readRun_44 : decode cX7_readRun 44 = .ok (.invokevirtual 130, 3) := by decide +kernel
theorem dX7_readRun_47 : decode cX7_readRun 47 = .ok (.iadd, 1) := by decide +kernel
theorem dX7_readRun_48 : decode cX7_readRun 48 = .ok (.ireturn, 1) := by decide +kernel
set_option maxRecDepth 100000 in
theorem ggX7_readFlags_X7_bit : GoodIn wsX7_readFlags wsX7_bit := goodIn_r _ [9, 10, 11, 2, 12, 13, 14, 15, 8, 16, 25, 26, 27, 28, 29, 30, 31, 32, 33, 34, 35, 36, 37, 38, 39, 40, 41, 42, 43, 44, 45, 46, 47, 48, 49, 50, 51, 52, 53, 54, 55, 56, 57, 58, 59, 60, 61, 62, 63, 64, 65, 66] rfl (by decide +kernel)
set_option maxRecDepth 100000 in
theorem gX7_readFlags_X7_bit : GoodIn wsX7_readFlags (wsV RX7 126 RX7 yX7_bit wsX7_bit) := goodIn_app (goodIn_of _ (by decide +kernel)) ggX7_readFlags_X7_bit
set_option maxRecDepth 100000 in
theorem ggX7_readFlags_X7_readRun : GoodIn wsX7_readFlags wsX7_readRun := goodIn_r _ [20, 5, 6, 7, 8, 9, 10, 11, 2, 12, 13, 14, 15, 16, 21, 22, 23, 24, 25, 26, 27, 28, 29, 30, 31, 32, 33, 34, 35, 36, 37, 38, 39, 40, 41, 42, 43, 44, 45, 46, 47, 48, 49, 50, 51, 52, 53, 54, 55, 56, 57, 58, 59, 60, 61, 62, 63, 64, 65, 66] rfl (by decide +kernel)
set_option maxRecDepth 100000 in
theorem gX7_readFlags_X7_readRun : GoodIn wsX7_readFlags (wsV RX7 165 RX7 yX7_readRun wsX7_readRun) := goodIn_app (goodIn_of _ (by decide +kernel)) ggX7_readFlags_X7_readRun
set_option maxRecDepth 100000 in
theorem ggX7_readFlags_X7_fail : GoodIn wsX7_readFlags wsX7_fail := goodIn_r _ [16, 2, 25, 26, 27, 28, 29, 30, 31, 32, 33, 34, 35, 36, 37, 38, 39, 40, 41, 42, 43, 44, 45, 46, 47, 48, 49, 50, 51, 52, 53, 54, 55, 56, 57, 58, 59, 60, 61, 62, 63, 64, 65, 66] rfl (by decide +kernel)
set_option maxRecDepth 100000 in
theorem gX7_readFlags_X7_fail : GoodIn wsX7_readFlags (wsV RX7 123 RX7 yX7_fail wsX7_fail) := goodIn_app (goodIn_of _ (by decide +kernel)) ggX7_readFlags_X7_fail
theorem dX7_readFlags_0 : decode cX7_readFlags 0 = .ok (.aload_n 0, 1) := by decide +kernel
theorem dX7_readFlags_1 : decode cX7_readFlags 1 = .ok (.invokevirtual 126, 3) := by decide +kernel
theorem dX7_readFlags_4 : decode cX7_readFlags 4 = .ok (.istore_n 1, 1) := by decide +kernel
theorem dX7_readFlags_5 : decode cX7_readFlags 5 = .ok (.iconst 0, 1) := by decide +kernel
theorem dX7_readFlags_6 : decode cX7_readFlags 6 = .ok (.istore_n 2, 1) := by decide +kernel
theorem dX7_readFlags_7 : decode cX7_readFlags 7 = .ok (.iload_n 2, 1) := by decide +kernel
theorem dX7_readFlags_8 : decode cX7_readFlags 8 = .ok (.aload_n 0, 1) := by decide +kernel
theorem dX7_readFlags_9 : decode cX7_readFlags 9 = .ok (.getfield 99, 3) := by decide +kernel
theorem dX7_readFlags_12 : decode cX7_readFlags 12 = .ok (.if_icmp .ge 88, 3) := by decide +kernel
theorem dX7_readFlags_15 : decode cX7_readFlags 15 = .ok (.aload_n 0, 1) := by decide +kernel
theorem dX7_readFlags_16 : decode cX7_readFlags 16 = .ok (.getfield 117, 3) := by decide +kernel
theorem dX7_readFlags_19 : decode cX7_readFlags 19 = .ok (.ifCond .ne 81, 3) := by decide +kernel
theorem dX7_readFlags_22 : decode cX7_readFlags 22 = .ok (.aload_n 0, 1) := by decide +kernel
theorem dX7_readFlags_23 : decode cX7_readFlags 23 = .ok (.invokevirtual 165, 3) := by decide +kernel
theorem dX7_readFlags_26 : decode cX7_readFlags 26 = .ok (.istore_n 3, 1) := by decide +kernel
theorem dX7_readFlags_27 : decode cX7_readFlags 27 = .ok (.iload_n 2, 1) := by decide +kernel
theorem dX7_readFlags_28 : decode cX7_readFlags 28 = .ok (.iload_n 3, 1) := by decide +kernel
theorem dX7_readFlags_29 : decode cX7_readFlags 29 = .ok (.iadd, 1) := by decide +kernel
theorem dX7_readFlags_30 : decode cX7_readFlags 30 = .ok (.aload_n 0, 1) := by decide +kernel
theorem dX7_readFlags_31 : decode cX7_readFlags 31 = .ok (.getfield 99, 3) := by decide +kernel
theorem dX7_readFlags_34 : decode cX7_readFlags 34 = .ok (.if_icmp .le 8, 3) := by decide +kernel
theorem dX7_readFlags_37 : decode cX7_readFlags 37 = .ok (.aload_n 0, 1) := by decide +kernel
theorem dX7_readFlags_38 : decode cX7_readFlags 38 = .ok (.iconst 5, 1) := by decide +kernel
theorem dX7_readFlags_39 : decode cX7_readFlags 39 = .ok (.invokevirtual 123, 3) := by decide +kernel
theorem dX7_readFlags_42 : decode cX7_readFlags 42 = .ok (.iconst 0, 1) := by decide +kernel
theorem dX7_readFlags_43 : decode cX7_readFlags 43 = .ok (.istore 4, 2) := by decide +kernel
theorem dX7_readFlags_45 : decode cX7_readFlags 45 = .ok (.iload 4, 2) := by decide +kernel
theorem dX7_readFlags_47 : decode cX7_readFlags 47 = .ok (.iload_n 3, 1) := by decide +kernel
theorem dX7_readFlags_48 : decode cX7_readFlags 48 = .ok (.if_icmp .ge 41, 3) := by decide +kernel
theorem dX7_readFlags_51 : decode cX7_readFlags 51 = .ok (.aload_n 0, 1) := by decide +kernel
theorem dX7_readFlags_52 : decode cX7_readFlags 52 = .ok (.getfield 117, 3) := by decide +kernel
theorem dX7_readFlags_55 : decode cX7_readFlags 55 = .ok (.ifCond .ne 34, 3) := by decide +kernel
theorem dX7_readFlags_58 : decode cX7_readFlags 58 = .ok (.aload_n 0, 1) := by decide +kernel
theorem dX7_readFlags_59 : decode cX7_readFlags 59 = .ok (.getfield 62, 3) := by decide +kernel
theorem dX7_readFlags_62 : decode cX7_readFlags 62 = .ok (.aload_n 0, 1) := by decide +kernel
theorem dX7_readFlags_63 : decode cX7_readFlags 63 = .ok (.getfield 47, 3) := by decide +kernel
theorem dX7_readFlags_66 : decode cX7_readFlags 66 = .ok (.iload_n 2, 1) := by decide +kernel
theorem dX7_readFlags_67 : decode cX7_readFlags 67 = .ok (.iload 4, 2) := by decide +kernel
theorem dX7_readFlags_69 : decode cX7_readFlags 69 = .ok (.iadd, 1) := by decide +kernel
theorem dX7_readFlags_70 : decode cX7_readFlags 70 = .ok (.iaload, 1) := by decide +kernel
theorem dX7_readFlags_71 : decode cX7_readFlags 71 = .ok (.iload_n 1, 1) := by decide +kernel
theorem dX7_readFlags_72 : decode cX7_readFlags 72 = .ok (.iconst 1, 1) := by decide +kernel
theorem dX7_readFlags_73 : decode cX7_readFlags 73 = .ok (.if_icmp .ne 8, 3) := by decide +kernel
theorem dX7_readFlags_76 : decode cX7_readFlags 76 = .ok (.bipush 99, 2) := by decide +kernel
theorem dX7_readFlags_78 : decode cX7_readFlags 78 = .ok (.goto 4, 3) := by decide +kernel
theorem dX7_readFlags_81 : decode cX7_readFlags 81 = .ok (.iconst 0, 1) := by decide +kernel
theorem dX7_readFlags_82 : decode cX7_readFlags 82 = .ok (.iastore, 1) := by decide +kernel
theorem dX7_readFlags_83 : decode cX7_readFlags 83 = .ok (.iinc 4 1, 3) := by decide +kernel
theorem dX7_readFlags_86 : decode cX7_readFlags 86 = .ok (.goto (-41), 3) := by decide +kernel
theorem dX7_readFlags_89 : decode cX7_readFlags 89 = .ok (.iload_n 2, 1) := by decide +kernel
theorem dX7_readFlags_90 : decode cX7_readFlags 90 = .ok (.iload_n 3, 1) := by decide +kernel
theorem dX7_readFlags_91 : decode cX7_readFlags 91 = .ok (.iadd, 1) := by decide +kernel
theorem dX7_readFlags_92 : decode cX7_readFlags 92 = .ok (.istore_n 2, 1) := by decide +kernel
theorem dX7_readFlags_93 : decode cX7_readFlags 93 = .ok (.iconst 1, 1) := by decide +kernel
theorem dX7_readFlags_94 : decode cX7_readFlags 94 = .ok (.iload_n 1, 1) := by decide +kernel
theorem dX7_readFlags_95 : decode cX7_readFlags 95 = .ok (.isub, 1) := by decide +kernel
theorem dX7_readFlags_96 : decode cX7_readFlags 96 = .ok (.istore_n 1, 1) := by decide +kernel
theorem dX7_readFlags_97 : decode cX7_readFlags 97 = .ok (.goto (-90), 3) := by decide +kernel
theorem dX7_readFlags_100 : decode cX7_readFlags 100 = .ok (.return_, 1) := by decide +kernel
set_option maxRecDepth 100000 in
theorem ggX7_readFar_X7_bits : GoodIn wsX7_readFar wsX7_bits := goodIn_r _ [5, 6, 7, 8, 4, 9, 10, 11, 12, 13, 14, 15, 16, 17, 18, 19, 20, 21, 22, 23, 24, 25, 26, 27, 28, 29, 30, 31, 32, 33, 34, 35, 36, 37, 38, 39, 40, 41, 42, 43, 44, 45, 46, 47, 48, 49, 50, 51, 52, 53, 54, 55, 56, 57, 58, 59] rfl (by decide +kernel)
set_option maxRecDepth 100000 in
theorem gX7_readFar_X7_bits : GoodIn wsX7_readFar (wsV RX7 130 RX7 yX7_bits wsX7_bits) := goodIn_app (goodIn_of _ (by decide +kernel)) ggX7_readFar_X7_bits
set_option maxRecDepth 100000 in
theorem ggX7_readFar_X7_bit : GoodIn wsX7_readFar wsX7_bit := goodIn_r _ [9, 10, 11, 12, 13, 14, 15, 16, 4, 17, 18, 19, 20, 21, 22, 23, 24, 25, 26, 27, 28, 29, 30, 31, 32, 33, 34, 35, 36, 37, 38, 39, 40, 41, 42, 43, 44, 45, 46, 47, 48, 49, 50, 51, 52, 53, 54, 55, 56, 57, 58, 59] rfl (by decide +kernel)
set_option maxRecDepth 100000 in
theorem gX7_readFar_X7_bit : GoodIn wsX7_readFar (wsV RX7 126 RX7 yX7_bit wsX7_bit) := goodIn_app (goodIn_of _ (by decide +kernel)) ggX7_readFar_X7_bit
theorem dX7_readFar_0 : decode cX7_readFar 0 = .ok (.aload_n 0, 1) := by decide +kernel
theorem dX7_readFar_1 : decode cX7_readFar 1 = .ok (.iconst 5, 1) := by decide +kernel
theorem dX7_readFar_2 : decode cX7_readFar 2 = .ok (.invokevirtual 130, 3) := by decide +kernel
theorem dX7_readFar_5 : decode cX7_readFar 5 = .ok (.istore_n 1, 1) := by decide +kernel
theorem dX7_readFar_6 : decode cX7_readFar 6 = .ok (.aload_n 0, 1) := by decide +kernel
theorem dX7_readFar_7 : decode cX7_readFar 7 = .ok (.invokevirtual 126, 3) := by decide +kernel
theorem dX7_readFar_10 : decode cX7_readFar 10 = .ok (.iconst 1, 1) := by decide +kernel
theorem dX7_readFar_11 : decode cX7_readFar 11 = .ok (.if_icmp .ne 8, 3) := by decide +kernel
theorem dX7_readFar_14 : decode cX7_readFar 14 = .ok (.iload_n 1, 1) := by decide +kernel
theorem dX7_readFar_15 : decode cX7_readFar 15 = .ok (.ineg, 1) := by decide +kernel
theorem dX7_readFar_16 : decode cX7_readFar 16 = .ok (.goto 4, 3) := by decide +kernel
theorem dX7_readFar_19 : decode cX7_readFar 19 = .ok (.iload_n 1, 1) := by decide +kernel
theorem dX7_readFar_20 : decode cX7_readFar 20 = .ok (.ireturn, 1) := by decide +kernel
set_option maxRecDepth 100000 in
theorem ggX7_readModes_X7_bit : GoodIn wsX7_readModes wsX7_bit := goodIn_r _ [10, 11, 12, 13, 14, 15, 16, 17, 9, 18, 27, 28, 29, 30, 31, 32, 33, 34, 35, 36, 37, 38, 39, 40, 41, 42, 43, 44, 45, 46, 47, 48, 49, 50, 51, 52, 53, 54, 55, 56, 57, 58, 59, 60, 61, 62, 63, 64, 65, 66, 67, 68] rfl (by decide +kernel)
set_option maxRecDepth 100000 in
theorem gX7_readModes_X7_bit : GoodIn wsX7_readModes (wsV RX7 126 RX7 yX7_bit wsX7_bit) := goodIn_app (goodIn_of _ (by decide +kernel)) ggX7_readModes_X7_bit
set_option maxRecDepth 100000 in
theorem ggX7_readModes_X7_readFar : GoodIn wsX7_readModes wsX7_readFar := goodIn_r _ [22, 23, 24, 25, 9, 26, 6, 7, 8, 10, 11, 12, 13, 14, 15, 16, 17, 18, 27, 28, 29, 30, 31, 32, 33, 34, 35, 36, 37, 38, 39, 40, 41, 42, 43, 44, 45, 46, 47, 48, 49, 50, 51, 52, 53, 54, 55, 56, 57, 58, 59, 60, 61, 62, 63, 64, 65, 66, 67, 68] rfl (by decide +kernel)
set_option maxRecDepth 100000 in
theorem gX7_readModes_X7_readFar : GoodIn wsX7_readModes (wsV RX7 168 RX7 yX7_readFar wsX7_readFar) := goodIn_app (goodIn_of _ (by decide +kernel)) ggX7_readModes_X7_readFar
theorem dX7_readModes_0 : decode cX7_readModes 0 = .ok (.iconst 0, 1) := by decide +kernel
theorem dX7_readModes_1 : decode cX7_readModes 1 = .ok (.istore_n 1, 1) := by decide +kernel
theorem dX7_readModes_2 : decode cX7_readModes 2 = .ok (.iconst 0, 1) := by decide +kernel
theorem dX7_readModes_3 : decode cX7_readModes 3 = .ok (.istore_n 2, 1) := by decide +kernel
theorem dX7_readModes_4 : decode cX7_readModes 4 = .ok (.iconst 0, 1) := by decide +kernel
theorem dX7_readModes_5 : decode cX7_readModes 5 = .ok (.istore_n 3, 1) := by decide +kernel
theorem dX7_readModes_6 : decode cX7_readModes 6 = .ok (.iload_n 3, 1) := by decide +kernel
theorem dX7_readModes_7 : decode cX7_readModes 7 = .ok (.aload_n 0, 1) := by decide +kernel
theorem dX7_readModes_8 : decode cX7_readModes 8 = .ok (.getfield 99, 3) := by decide +kernel
theorem dX7_readModes_11 : decode cX7_readModes 11 = .ok (.if_icmp .ge 158, 3) := by decide +kernel
theorem dX7_readModes_14 : decode cX7_readModes 14 = .ok (.aload_n 0, 1) := by decide +kernel
theorem dX7_readModes_15 : decode cX7_readModes 15 = .ok (.getfield 47, 3) := by decide +kernel
theorem dX7_readModes_18 : decode cX7_readModes 18 = .ok (.iload_n 3, 1) := by decide +kernel
theorem dX7_readModes_19 : decode cX7_readModes 19 = .ok (.iaload, 1) := by decide +kernel
theorem dX7_readModes_20 : decode cX7_readModes 20 = .ok (.istore 4, 2) := by decide +kernel
theorem dX7_readModes_22 : decode cX7_readModes 22 = .ok (.aload_n 0, 1) := by decide +kernel
theorem dX7_readModes_23 : decode cX7_readModes 23 = .ok (.getfield 62, 3) := by decide +kernel
theorem dX7_readModes_26 : decode cX7_readModes 26 = .ok (.iload 4, 2) := by decide +kernel
theorem dX7_readModes_28 : decode cX7_readModes 28 = .ok (.iaload, 1) := by decide +kernel
theorem dX7_readModes_29 : decode cX7_readModes 29 = .ok (.bipush 99, 2) := by decide +kernel
theorem dX7_readModes_31 : decode cX7_readModes 31 = .ok (.if_icmp .ne 132, 3) := by decide +kernel
theorem dX7_readModes_34 : decode cX7_readModes 34 = .ok (.aload_n 0, 1) := by decide +kernel
theorem dX7_readModes_35 : decode cX7_readModes 35 = .ok (.invokevirtual 126, 3) := by decide +kernel
theorem dX7_readModes_38 : decode cX7_readModes 38 = .ok (.ifCond .ne 14, 3) := by decide +kernel
theorem dX7_readModes_41 : decode cX7_readModes 41 = .ok (.aload_n 0, 1) := by decide +kernel
theorem dX7_readModes_42 : decode cX7_readModes 42 = .ok (.getfield 62, 3) := by decide +kernel
theorem dX7_readModes_45 : decode cX7_readModes 45 = .ok (.iload 4, 2) := by decide +kernel
theorem dX7_readModes_47 : decode cX7_readModes 47 = .ok (.iconst 1, 1) := by decide +kernel
theorem dX7_readModes_48 : decode cX7_readModes 48 = .ok (.iastore, 1) := by decide +kernel
theorem dX7_readModes_49 : decode cX7_readModes 49 = .ok (.goto 68, 3) := by decide +kernel
theorem dX7_readModes_52 : decode cX7_readModes 52 = .ok (.aload_n 0, 1) := by decide +kernel
theorem dX7_readModes_53 : decode cX7_readModes 53 = .ok (.invokevirtual 126, 3) := by decide +kernel
theorem dX7_readModes_56 : decode cX7_readModes 56 = .ok (.ifCond .ne 14, 3) := by decide +kernel
theorem dX7_readModes_59 : decode cX7_readModes 59 = .ok (.aload_n 0, 1) := by decide +kernel
theorem dX7_readModes_60 : decode cX7_readModes 60 = .ok (.getfield 62, 3) := by decide +kernel
theorem dX7_readModes_63 : decode cX7_readModes 63 = .ok (.iload 4, 2) := by decide +kernel
theorem dX7_readModes_65 : decode cX7_readModes 65 = .ok (.iconst 2, 1) := by decide +kernel
theorem dX7_readModes_66 : decode cX7_readModes 66 = .ok (.iastore, 1) := by decide +kernel
theorem dX7_readModes_67 : decode cX7_readModes 67 = .ok (.goto 50, 3) := by decide +kernel
theorem dX7_readModes_70 : decode cX7_readModes 70 = .ok (.aload_n 0, 1) := by decide +kernel
theorem dX7_readModes_71 : decode cX7_readModes 71 = .ok (.invokevirtual 126, 3) := by decide +kernel
theorem dX7_readModes_74 : decode cX7_readModes 74 = .ok (.ifCond .ne 24, 3) := by decide +kernel
theorem dX7_readModes_77 : decode cX7_readModes 77 = .ok (.aload_n 0, 1) := by decide +kernel
theorem dX7_readModes_78 : decode cX7_readModes 78 = .ok (.invokevirtual 168, 3) := by decide +kernel
theorem dX7_readModes_81 : decode cX7_readModes 81 = .ok (.istore_n 1, 1) := by decide +kernel
theorem dX7_readModes_82 : decode cX7_readModes 82 = .ok (.aload_n 0, 1) := by decide +kernel
theorem dX7_readModes_83 : decode cX7_readModes 83 = .ok (.invokevirtual 168, 3) := by decide +kernel
theorem dX7_readModes_86 : decode cX7_readModes 86 = .ok (.istore_n 2, 1) := by decide +kernel
theorem dX7_readModes_87 : decode cX7_readModes 87 = .ok (.aload_n 0, 1) := by decide +kernel
theorem dX7_readModes_88 : decode cX7_readModes 88 = .ok (.getfield 62, 3) := by decide +kernel
theorem dX7_readModes_91 : decode cX7_readModes 91 = .ok (.iload 4, 2) := by decide +kernel
theorem dX7_readModes_93 : decode cX7_readModes 93 = .ok (.iconst 3, 1) := by decide +kernel
theorem dX7_readModes_94 : decode cX7_readModes 94 = .ok (.iastore, 1) := by decide +kernel
theorem dX7_readModes_95 : decode cX7_readModes 95 = .ok (.goto 22, 3) := by decide +kernel
theorem dX7_readModes_98 : decode cX7_readModes 98 = .ok (.aload_n 0, 1) := by decide +kernel
theorem dX7_readModes_99 : decode cX7_readModes 99 = .ok (.getfield 62, 3) := by decide +kernel
theorem dX7_readModes_102 : decode cX7_readModes 102 = .ok (.iload 4, 2) := by decide +kernel
theorem dX7_readModes_104 : decode cX7_readModes 104 = .ok (.aload_n 0, 1) := by decide +kernel
theorem dX7_readModes_105 : decode cX7_readModes 105 = .ok (.invokevirtual 126, 3) := by decide +kernel
theorem dX7_readModes_108 : decode cX7_readModes 108 = .ok (.ifCond .ne 7, 3) := by decide +kernel
theorem dX7_readModes_111 : decode cX7_readModes 111 = .ok (.iconst 3, 1) := by decide +kernel
theorem dX7_readModes_112 : decode cX7_readModes 112 = .ok (.goto 4, 3) := by decide +kernel
theorem dX7_readModes_115 : decode cX7_readModes 115 = .ok (.iconst 4, 1) := by decide +kernel
theorem dX7_readModes_116 : decode cX7_readModes 116 = .ok (.iastore, 1) := by decide +kernel
theorem dX7_readModes_117 : decode cX7_readModes 117 = .ok (.aload_n 0, 1) := by decide +kernel
theorem dX7_readModes_118 : decode cX7_readModes 118 = .ok (.getfield 65, 3) := by decide +kernel
theorem dX7_readModes_121 : decode cX7_readModes 121 = .ok (.iload 4, 2) := by decide +kernel
theorem dX7_readModes_123 : decode cX7_readModes 123 = .ok (.aload_n 0, 1) := by decide +kernel
theorem dX7_readModes_124 : decode cX7_readModes 124 = .ok (.getfield 62, 3) := by decide +kernel
theorem dX7_readModes_127 : decode cX7_readModes 127 = .ok (.iload 4, 2) := by decide +kernel
theorem dX7_readModes_129 : decode cX7_readModes 129 = .ok (.iaload, 1) := by decide +kernel
theorem dX7_readModes_130 : decode cX7_readModes 130 = .ok (.iconst 3, 1) := by decide +kernel
theorem dX7_readModes_131 : decode cX7_readModes 131 = .ok (.if_icmp .ne 7, 3) := by decide +kernel
theorem dX7_readModes_134 : decode cX7_readModes 134 = .ok (.iload_n 1, 1) := by decide +kernel
theorem dX7_readModes_135 : decode cX7_readModes 135 = .ok (.goto 4, 3) := by decide +kernel
theorem dX7_readModes_138 : decode cX7_readModes 138 = .ok (.iconst 0, 1) := by decide +kernel
theorem dX7_readModes_139 : decode cX7_readModes 139 = .ok (.iastore, 1) := by decide +kernel
theorem dX7_readModes_140 : decode cX7_readModes 140 = .ok (.aload_n 0, 1) := by decide +kernel
theorem dX7_readModes_141 : decode cX7_readModes 141 = .ok (.getfield 68, 3) := by decide +kernel
theorem dX7_readModes_144 : decode cX7_readModes 144 = .ok (.iload 4, 2) := by decide +kernel
theorem dX7_readModes_146 : decode cX7_readModes 146 = .ok (.aload_n 0, 1) := by decide +kernel
theorem dX7_readModes_147 : decode cX7_readModes 147 = .ok (.getfield 62, 3) := by decide +kernel
theorem dX7_readModes_150 : decode cX7_readModes 150 = .ok (.iload 4, 2) := by decide +kernel
theorem dX7_readModes_152 : decode cX7_readModes 152 = .ok (.iaload, 1) := by decide +kernel
theorem dX7_readModes_153 : decode cX7_readModes 153 = .ok (.iconst 3, 1) := by decide +kernel
theorem dX7_readModes_154 : decode cX7_readModes 154 = .ok (.if_icmp .ne 7, 3) := by decide +kernel
theorem dX7_readModes_157 : decode cX7_readModes 157 = .ok (.iload_n 2, 1) := by decide +kernel
theorem dX7_readModes_158 : decode cX7_readModes 158 = .ok (.goto 4, 3) := by decide +kernel
theorem dX7_readModes_161 : decode cX7_readModes 161 = .ok (.iconst 0, 1) := by decide +kernel
theorem dX7_readModes_162 : decode cX7_readModes 162 = .ok (.iastore, 1) := by decide +kernel
theorem dX7_readModes_163 : decode cX7_readModes 163 = .ok (.iinc 3 1, 3) := by decide +kernel
theorem dX7_readModes_166 : decode cX7_readModes 166 = .ok (.goto (-160), 3) := by decide +kernel
theorem dX7_readModes_169 : decode cX7_readModes 169 = .ok (.return_, 1) := by decide +kernel
set_option maxRecDepth 100000 in
theorem ggX7_readToken_X7_bit : GoodIn wsX7_readToken wsX7_bit := goodIn_r _ [7, 8, 9, 10, 11, 12, 13, 14, 6, 15, 16, 17, 18, 19, 20, 21, 22, 23, 24, 25, 26, 27, 28, 29, 30, 31, 32, 33, 34, 35, 36, 37, 38, 39, 40, 41, 42, 43, 44, 45, 46, 47, 48, 49, 50, 51, 52, 53, 54, 55, 56, 57] rfl (by decide +kernel)
set_option maxRecDepth 100000 in
theorem gX7_readToken_X7_bit : GoodIn wsX7_readToken (wsV RX7 126 RX7 yX7_bit wsX7_bit) := goodIn_app (goodIn_of _ (by decide +kernel)) ggX7_readToken_X7_bit
theorem dX7_readToken_0 : decode cX7_readToken 0 = .ok (.aload_n 0, 1) := by decide +kernel
theorem dX7_readToken_1 : decode cX7_readToken 1 = .ok (.getfield 29, 3) := by decide +kernel
theorem dX7_readToken_4 : decode cX7_readToken 4 = .ok (.iload_n 1, 1) := by decide +kernel
theorem dX7_readToken_5 : decode cX7_readToken 5 = .ok (.iaload, 1) := by decide +kernel
theorem dX7_readToken_6 : decode cX7_readToken 6 = .ok (.istore_n 2, 1) := by decide +kernel
theorem dX7_readToken_7 : decode cX7_readToken 7 = .ok (.iload_n 2, 1) := by decide +kernel
theorem dX7_readToken_8 : decode cX7_readToken 8 = .ok (.ifCond .lt 20, 3) := by decide +kernel
theorem dX7_readToken_11 : decode cX7_readToken 11 = .ok (.aload_n 0, 1) := by decide +kernel
theorem dX7_readToken_12 : decode cX7_readToken 12 = .ok (.getfield 26, 3) := by decide +kernel
theorem dX7_readToken_15 : decode cX7_readToken 15 = .ok (.iconst 2, 1) := by decide +kernel
theorem dX7_readToken_16 : decode cX7_readToken 16 = .ok (.iload_n 2, 1) := by decide +kernel
theorem dX7_readToken_17 : decode cX7_readToken 17 = .ok (.imul, 1) := by decide +kernel
theorem dX7_readToken_18 : decode cX7_readToken 18 = .ok (.aload_n 0, 1) := by decide +kernel
theorem dX7_readToken_19 : decode cX7_readToken 19 = .ok (.invokevirtual 126, 3) := by decide +kernel
theorem dX7_readToken_22 : decode cX7_readToken 22 = .ok (.iadd, 1) := by decide +kernel
theorem dX7_readToken_23 : decode cX7_readToken 23 = .ok (.iaload, 1) := by decide +kernel
theorem dX7_readToken_24 : decode cX7_readToken 24 = .ok (.istore_n 2, 1) := by decide +kernel
theorem dX7_readToken_25 : decode cX7_readToken 25 = .ok (.goto (-18), 3) := by decide +kernel
theorem dX7_readToken_28 : decode cX7_readToken 28 = .ok (.iconst (-1), 1) := by decide +kernel
theorem dX7_readToken_29 : decode cX7_readToken 29 = .ok (.iload_n 2, 1) := by decide +kernel
theorem dX7_readToken_30 : decode cX7_readToken 30 = .ok (.isub, 1) := by decide +kernel
theorem dX7_readToken_31 : decode cX7_readToken 31 = .ok (.ireturn, 1) := by decide +kernel
set_option maxRecDepth 100000 in
theorem ggX7_pass_X7_fail : GoodIn wsX7_pass wsX7_fail := goodIn_r _ [6, 7, 8, 9, 10, 11, 12, 13, 14, 15, 16, 17, 18, 19, 20, 21, 22, 23, 24, 25, 26, 27, 28, 29, 30, 31, 32, 33, 34, 35, 36, 37, 38, 39, 40, 41, 42, 43, 44, 45, 46, 47, 48, 49] rfl (by decide +kernel)
set_option maxRecDepth 100000 in
theorem gX7_pass_X7_fail : GoodIn wsX7_pass (wsV RX7 123 RX7 yX7_fail wsX7_fail) := goodIn_app (goodIn_of _ (by decide +kernel)) ggX7_pass_X7_fail
theorem dX7_pass_0 : decode cX7_pass 0 = .ok (.aload_n 0, 1) := by decide +kernel
theorem dX7_pass_1 : decode cX7_pass 1 = .ok (.getfield 71, 3) := by decide +kernel
theorem dX7_pass_4 : decode cX7_pass 4 = .ok (.iload_n 1, 1) := by decide +kernel
theorem dX7_pass_5 : decode cX7_pass 5 = .ok (.aload_n 0, 1) := by decide +kernel
theorem dX7_pass_6 : decode cX7_pass 6 = .ok (.getfield 71, 3) := by decide +kernel
theorem dX7_pass_9 : decode cX7_pass 9 = .ok (.iload_n 1, 1) := by decide +kernel
theorem dX7_pass_10 : decode cX7_pass 10 = .ok (.iaload, 1) := by decide +kernel
theorem dX7_pass_11 : decode cX7_pass 11 = .ok (.iload_n 2, 1) := by decide +kernel
theorem dX7_pass_12 : decode cX7_pass 12 = .ok (.iadd, 1) := by decide +kernel
theorem dX7_pass_13 : decode cX7_pass 13 = .ok (.iastore, 1) := by decide +kernel
theorem dX7_pass_14 : decode cX7_pass 14 = .ok (.aload_n 0, 1) := by decide +kernel
theorem dX7_pass_15 : decode cX7_pass 15 = .ok (.getfield 71, 3) := by decide +kernel
theorem dX7_pass_18 : decode cX7_pass 18 = .ok (.iload_n 1, 1) := by decide +kernel
theorem dX7_pass_19 : decode cX7_pass 19 = .ok (.iaload, 1) := by decide +kernel
theorem dX7_pass_20 : decode cX7_pass 20 = .ok (.bipush 64, 2) := by decide +kernel
theorem dX7_pass_22 : decode cX7_pass 22 = .ok (.if_icmp .le 9, 3) := by decide +kernel
theorem dX7_pass_25 : decode cX7_pass 25 = .ok (.aload_n 0, 1) := by decide +kernel
theorem dX7_pass_26 : decode cX7_pass 26 = .ok (.bipush 6, 2) := by decide +kernel
theorem dX7_pass_28 : decode cX7_pass 28 = .ok (.invokevirtual 123, 3) := by decide +kernel
theorem dX7_pass_31 : decode cX7_pass 31 = .ok (.return_, 1) := by decide +kernel
set_option maxRecDepth 100000 in
theorem ggX7_put_X7_fail : GoodIn wsX7_put wsX7_fail := goodIn_r _ [7, 8, 9, 10, 11, 12, 13, 14, 15, 16, 17, 18, 19, 20, 21, 22, 23, 24, 25, 26, 27, 28, 29, 30, 31, 32, 33, 34, 35, 36, 37, 38, 39, 40, 41, 42, 43, 44, 45, 46, 47, 48, 49, 50] rfl (by decide +kernel)
set_option maxRecDepth 100000 in
theorem gX7_put_X7_fail : GoodIn wsX7_put (wsV RX7 123 RX7 yX7_fail wsX7_fail) := goodIn_app (goodIn_of _ (by decide +kernel)) ggX7_put_X7_fail
theorem dX7_put_0 : decode cX7_put 0 = .ok (.aload_n 0, 1) := by decide +kernel
theorem dX7_put_1 : decode cX7_put 1 = .ok (.getfield 71, 3) := by decide +kernel
theorem dX7_put_4 : decode cX7_put 4 = .ok (.iload_n 1, 1) := by decide +kernel
theorem dX7_put_5 : decode cX7_put 5 = .ok (.iaload, 1) := by decide +kernel
theorem dX7_put_6 : decode cX7_put 6 = .ok (.bipush 63, 2) := by decide +kernel
theorem dX7_put_8 : decode cX7_put 8 = .ok (.if_icmp .le 12, 3) := by decide +kernel
theorem dX7_put_11 : decode cX7_put 11 = .ok (.aload_n 0, 1) := by decide +kernel
theorem dX7_put_12 : decode cX7_put 12 = .ok (.bipush 6, 2) := by decide +kernel
theorem dX7_put_14 : decode cX7_put 14 = .ok (.invokevirtual 123, 3) := by decide +kernel
theorem dX7_put_17 : decode cX7_put 17 = .ok (.goto 30, 3) := by decide +kernel
theorem dX7_put_20 : decode cX7_put 20 = .ok (.aload_n 0, 1) := by decide +kernel
theorem dX7_put_21 : decode cX7_put 21 = .ok (.getfield 74, 3) := by decide +kernel
theorem dX7_put_24 : decode cX7_put 24 = .ok (.bipush 64, 2) := by decide +kernel
theorem dX7_put_26 : decode cX7_put 26 = .ok (.iload_n 1, 1) := by decide +kernel
theorem dX7_put_27 : decode cX7_put 27 = .ok (.imul, 1) := by decide +kernel
theorem dX7_put_28 : decode cX7_put 28 = .ok (.aload_n 0, 1) := by decide +kernel
theorem dX7_put_29 : decode cX7_put 29 = .ok (.getfield 71, 3) := by decide +kernel
theorem dX7_put_32 : decode cX7_put 32 = .ok (.iload_n 1, 1) := by decide +kernel
theorem dX7_put_33 : decode cX7_put 33 = .ok (.iaload, 1) := by decide +kernel
theorem dX7_put_34 : decode cX7_put 34 = .ok (.iadd, 1) := by decide +kernel
theorem dX7_put_35 : decode cX7_put 35 = .ok (.iload_n 2, 1) := by decide +kernel
theorem dX7_put_36 : decode cX7_put 36 = .ok (.iastore, 1) := by decide +kernel
theorem dX7_put_37 : decode cX7_put 37 = .ok (.aload_n 0, 1) := by decide +kernel
theorem dX7_put_38 : decode cX7_put 38 = .ok (.getfield 71, 3) := by decide +kernel
theorem dX7_put_41 : decode cX7_put 41 = .ok (.iload_n 1, 1) := by decide +kernel
theorem dX7_put_42 : decode cX7_put 42 = .ok (.dup2, 1) := by decide +kernel
theorem dX7_put_43 : decode cX7_put 43 = .ok (.iaload, 1) := by decide +kernel
theorem dX7_put_44 : decode cX7_put 44 = .ok (.iconst 1, 1) := by decide +kernel
theorem dX7_put_45 : decode cX7_put 45 = .ok (.iadd, 1) := by decide +kernel
theorem dX7_put_46 : decode cX7_put 46 = .ok (.iastore, 1) := by decide +kernel
theorem dX7_put_47 : decode cX7_put 47 = .ok (.return_, 1) := by decide +kernel
theorem dX7_ends_0 : decode cX7_ends 0 = .ok (.aload_n 0, 1) := by decide +kernel
theorem dX7_ends_1 : decode cX7_ends 1 = .ok (.getfield 71, 3) := by decide +kernel
theorem dX7_ends_4 : decode cX7_ends 4 = .ok (.iload_n 1, 1) := by decide +kernel
theorem dX7_ends_5 : decode cX7_ends 5 = .ok (.bipush 64, 2) := by decide +kernel
theorem dX7_ends_7 : decode cX7_ends 7 = .ok (.iastore, 1) := by decide +kernel
theorem dX7_ends_8 : decode cX7_ends 8 = .ok (.aload_n 0, 1) := by decide +kernel
theorem dX7_ends_9 : decode cX7_ends 9 = .ok (.iload_n 2, 1) := by decide +kernel
theorem dX7_ends_10 : decode cX7_ends 10 = .ok (.putfield 171, 3) := by decide +kernel
theorem dX7_ends_13 : decode cX7_ends 13 = .ok (.return_, 1) := by decide +kernel
set_option maxRecDepth 100000 in
theorem ggX7_take_X7_ends : GoodIn wsX7_take wsX7_ends := goodIn_r _ [5, 6, 7, 37, 38, 39, 40, 41, 42, 43, 44, 45, 46, 47, 48, 49, 50, 51, 52, 53, 54, 55, 56, 57, 58, 59, 60, 61, 62, 63, 64, 65, 66, 67, 68, 69, 70, 71, 72, 73, 74, 75, 76, 77, 78] rfl (by decide +kernel)
set_option maxRecDepth 100000 in
theorem gX7_take_X7_ends : GoodIn wsX7_take (wsV RX7 174 RX7 yX7_ends wsX7_ends) := goodIn_app (goodIn_of _ (by decide +kernel)) ggX7_take_X7_ends
set_option maxRecDepth 100000 in
theorem ggX7_take_X7_bits : GoodIn wsX7_take wsX7_bits := goodIn_r _ [11, 12, 13, 14, 4, 15, 16, 17, 18, 19, 20, 21, 22, 23, 37, 38, 39, 40, 41, 42, 43, 44, 45, 46, 47, 48, 49, 50, 51, 52, 53, 54, 55, 56, 57, 58, 59, 60, 61, 62, 63, 64, 65, 66, 67, 68, 69, 70, 71, 72, 73, 74, 75, 76, 77, 78] rfl (by decide +kernel)
set_option maxRecDepth 100000 in
theorem gX7_take_X7_bits : GoodIn wsX7_take (wsV RX7 130 RX7 yX7_bits wsX7_bits) := goodIn_app (goodIn_of _ (by decide +kernel)) ggX7_take_X7_bits
set_option maxRecDepth 100000 in
theorem ggX7_take_X7_pass : GoodIn wsX7_take wsX7_pass := goodIn_r _ [27, 6, 20, 21, 22, 4, 23, 18, 37, 38, 39, 40, 41, 42, 43, 44, 45, 46, 47, 48, 49, 50, 51, 52, 53, 54, 55, 56, 57, 58, 59, 60, 61, 62, 63, 64, 65, 66, 67, 68, 69, 70, 71, 72, 73, 74, 75, 76, 77, 78] rfl (by decide +kernel)
set_option maxRecDepth 100000 in
theorem gX7_take_X7_pass : GoodIn wsX7_take (wsV RX7 178 RX7 yX7_pass wsX7_pass) := goodIn_app (goodIn_of _ (by decide +kernel)) ggX7_take_X7_pass
set_option maxRecDepth 100000 in
theorem ggX7_take_X7_put : GoodIn wsX7_take wsX7_put := goodIn_r _ [31, 6, 32, 20, 21, 22, 4, 23, 18, 37, 38, 39, 40, 41, 42, 43, 44, 45, 46, 47, 48, 49, 50, 51, 52, 53, 54, 55, 56, 57, 58, 59, 60, 61, 62, 63, 64, 65, 66, 67, 68, 69, 70, 71, 72, 73, 74, 75, 76, 77, 78] rfl (by decide +kernel)
set_option maxRecDepth 100000 in
theorem gX7_take_X7_put : GoodIn wsX7_take (wsV RX7 181 RX7 yX7_put wsX7_put) := goodIn_app (goodIn_of _ (by decide +kernel)) ggX7_take_X7_put
set_option maxRecDepth 100000 in
theorem ggX7_take_X7_takeSigned : GoodIn wsX7_take wsX7_takeSigned := goodIn_r _ [36, 12, 13, 14, 4, 15, 16, 17, 18, 19, 20, 21, 22, 23, 28, 29, 30, 31, 6, 32, 8, 9, 10, 11, 24, 25, 26, 27, 37, 38, 39, 40, 41, 42, 43, 44, 45, 46, 47, 48, 49, 50, 51, 52, 53, 54, 55, 56, 57, 58, 59, 60, 61, 62, 63, 64, 65, 66, 67, 68, 69, 70, 71, 72, 73, 74, 75, 76, 77, 78] rfl (by decide +kernel)
set_option maxRecDepth 100000 in
theorem gX7_take_X7_takeSigned : GoodIn wsX7_take (wsV RX7 184 RX7 yX7_takeSigned wsX7_takeSigned) := goodIn_app (goodIn_of _ (by decide +kernel)) ggX7_take_X7_takeSigned
theorem dX7_take_0 : decode cX7_take 0 = .ok (.iload_n 2, 1) := by decide +kernel
theorem dX7_take_1 : decode cX7_take 1 = .ok (.iconst 2, 1) := by decide +kernel
theorem dX7_take_2 : decode cX7_take 2 = .ok (.if_icmp .ge 12, 3) := by decide +kernel
theorem dX7_take_5 : decode cX7_take 5 = .ok (.aload_n 0, 1) := by decide +kernel
theorem dX7_take_6 : decode cX7_take 6 = .ok (.iload_n 1, 1) := by decide +kernel
theorem dX7_take_7 : decode cX7_take 7 = .ok (.iload_n 2, 1) := by decide +kernel
theorem dX7_take_8 : decode cX7_take 8 = .ok (.invokevirtual 174, 3) := by decide +kernel
theorem dX7_take_11 : decode cX7_take 11 = .ok (.goto 177, 3) := by decide +kernel
theorem dX7_take_14 : decode cX7_take 14 = .ok (.iload_n 2, 1) := by decide +kernel
theorem dX7_take_15 : decode cX7_take 15 = .ok (.iconst 5, 1) := by decide +kernel
theorem dX7_take_16 : decode cX7_take 16 = .ok (.if_icmp .ge 51, 3) := by decide +kernel
theorem dX7_take_19 : decode cX7_take 19 = .ok (.aload_n 0, 1) := by decide +kernel
theorem dX7_take_20 : decode cX7_take 20 = .ok (.iload_n 1, 1) := by decide +kernel
theorem dX7_take_21 : decode cX7_take 21 = .ok (.iload_n 2, 1) := by decide +kernel
theorem dX7_take_22 : decode cX7_take 22 = .ok (.iconst 2, 1) := by decide +kernel
theorem dX7_take_23 : decode cX7_take 23 = .ok (.if_icmp .ne 13, 3) := by decide +kernel
theorem dX7_take_26 : decode cX7_take 26 = .ok (.iconst 2, 1) := by decide +kernel
theorem dX7_take_27 : decode cX7_take 27 = .ok (.aload_n 0, 1) := by decide +kernel
theorem dX7_take_28 : decode cX7_take 28 = .ok (.iconst 2, 1) := by decide +kernel
theorem dX7_take_29 : decode cX7_take 29 = .ok (.invokevirtual 130, 3) := by decide +kernel
theorem dX7_take_32 : decode cX7_take 32 = .ok (.iadd, 1) := by decide +kernel
theorem dX7_take_33 : decode cX7_take 33 = .ok (.goto 28, 3) := by decide +kernel
theorem dX7_take_36 : decode cX7_take 36 = .ok (.iload_n 2, 1) := by decide +kernel
theorem dX7_take_37 : decode cX7_take 37 = .ok (.iconst 3, 1) := by decide +kernel
theorem dX7_take_38 : decode cX7_take 38 = .ok (.if_icmp .ne 14, 3) := by decide +kernel
theorem dX7_take_41 : decode cX7_take 41 = .ok (.bipush 6, 2) := by decide +kernel
theorem dX7_take_43 : decode cX7_take 43 = .ok (.aload_n 0, 1) := by decide +kernel
theorem dX7_take_44 : decode cX7_take 44 = .ok (.iconst 3, 1) := by decide +kernel
theorem dX7_take_45 : decode cX7_take 45 = .ok (.invokevirtual 130, 3) := by decide +kernel
theorem dX7_take_48 : decode cX7_take 48 = .ok (.iadd, 1) := by decide +kernel
theorem dX7_take_49 : decode cX7_take 49 = .ok (.goto 12, 3) := by decide +kernel
theorem dX7_take_52 : decode cX7_take 52 = .ok (.bipush 14, 2) := by decide +kernel
theorem dX7_take_54 : decode cX7_take 54 = .ok (.aload_n 0, 1) := by decide +kernel
theorem dX7_take_55 : decode cX7_take 55 = .ok (.bipush 8, 2) := by decide +kernel
theorem dX7_take_57 : decode cX7_take 57 = .ok (.invokevirtual 130, 3) := by decide +kernel
theorem dX7_take_60 : decode cX7_take 60 = .ok (.iadd, 1) := by decide +kernel
theorem dX7_take_61 : decode cX7_take 61 = .ok (.invokevirtual 174, 3) := by decide +kernel
theorem dX7_take_64 : decode cX7_take 64 = .ok (.goto 124, 3) := by decide +kernel
theorem dX7_take_67 : decode cX7_take 67 = .ok (.iload_n 2, 1) := by decide +kernel
theorem dX7_take_68 : decode cX7_take 68 = .ok (.bipush 7, 2) := by decide +kernel
theorem dX7_take_70 : decode cX7_take 70 = .ok (.if_icmp .ge 35, 3) := by decide +kernel
theorem dX7_take_73 : decode cX7_take 73 = .ok (.aload_n 0, 1) := by decide +kernel
theorem dX7_take_74 : decode cX7_take 74 = .ok (.iload_n 1, 1) := by decide +kernel
theorem dX7_take_75 : decode cX7_take 75 = .ok (.iload_n 2, 1) := by decide +kernel
theorem dX7_take_76 : decode cX7_take 76 = .ok (.iconst 5, 1) := by decide +kernel
theorem dX7_take_77 : decode cX7_take 77 = .ok (.if_icmp .ne 13, 3) := by decide +kernel
theorem dX7_take_80 : decode cX7_take 80 = .ok (.iconst 1, 1) := by decide +kernel
theorem dX7_take_81 : decode cX7_take 81 = .ok (.aload_n 0, 1) := by decide +kernel
theorem dX7_take_82 : decode cX7_take 82 = .ok (.iconst 3, 1) := by decide +kernel
theorem dX7_take_83 : decode cX7_take 83 = .ok (.invokevirtual 130, 3) := by decide +kernel
theorem dX7_take_86 : decode cX7_take 86 = .ok (.iadd, 1) := by decide +kernel
theorem dX7_take_87 : decode cX7_take 87 = .ok (.goto 12, 3) := by decide +kernel
theorem dX7_take_90 : decode cX7_take 90 = .ok (.bipush 9, 2) := by decide +kernel
theorem dX7_take_92 : decode cX7_take 92 = .ok (.aload_n 0, 1) := by decide +kernel
theorem dX7_take_93 : decode cX7_take 93 = .ok (.bipush 6, 2) := by decide +kernel
theorem dX7_take_95 : decode cX7_take 95 = .ok (.invokevirtual 130, 3) := by decide +kernel
theorem dX7_take_98 : decode cX7_take 98 = .ok (.iadd, 1) := by decide +kernel
theorem dX7_take_99 : decode cX7_take 99 = .ok (.invokevirtual 178, 3) := by decide +kernel
theorem dX7_take_102 : decode cX7_take 102 = .ok (.goto 86, 3) := by decide +kernel
theorem dX7_take_105 : decode cX7_take 105 = .ok (.iload_n 2, 1) := by decide +kernel
theorem dX7_take_106 : decode cX7_take 106 = .ok (.bipush 11, 2) := by decide +kernel
theorem dX7_take_108 : decode cX7_take 108 = .ok (.if_icmp .ge 43, 3) := by decide +kernel
theorem dX7_take_111 : decode cX7_take 111 = .ok (.aload_n 0, 1) := by decide +kernel
theorem dX7_take_112 : decode cX7_take 112 = .ok (.iload_n 1, 1) := by decide +kernel
theorem dX7_take_113 : decode cX7_take 113 = .ok (.iload_n 2, 1) := by decide +kernel
theorem dX7_take_114 : decode cX7_take 114 = .ok (.bipush 7, 2) := by decide +kernel
theorem dX7_take_116 : decode cX7_take 116 = .ok (.if_icmp .ne 7, 3) := by decide +kernel
theorem dX7_take_119 : decode cX7_take 119 = .ok (.iconst 1, 1) := by decide +kernel
theorem dX7_take_120 : decode cX7_take 120 = .ok (.goto 25, 3) := by decide +kernel
theorem dX7_take_123 : decode cX7_take 123 = .ok (.iload_n 2, 1) := by decide +kernel
theorem dX7_take_124 : decode cX7_take 124 = .ok (.bipush 8, 2) := by decide +kernel
theorem dX7_take_126 : decode cX7_take 126 = .ok (.if_icmp .ne 7, 3) := by decide +kernel
theorem dX7_take_129 : decode cX7_take 129 = .ok (.iconst (-1), 1) := by decide +kernel
theorem dX7_take_130 : decode cX7_take 130 = .ok (.goto 15, 3) := by decide +kernel
theorem dX7_take_133 : decode cX7_take 133 = .ok (.iload_n 2, 1) := by decide +kernel
theorem dX7_take_134 : decode cX7_take 134 = .ok (.bipush 9, 2) := by decide +kernel
theorem dX7_take_136 : decode cX7_take 136 = .ok (.if_icmp .ne 7, 3) := by decide +kernel
theorem dX7_take_139 : decode cX7_take 139 = .ok (.iconst 2, 1) := by decide +kernel
theorem dX7_take_140 : decode cX7_take 140 = .ok (.goto 5, 3) := by decide +kernel
theorem dX7_take_143 : decode cX7_take 143 = .ok (.bipush (-2), 2) := by decide +kernel
theorem dX7_take_145 : decode cX7_take 145 = .ok (.invokevirtual 181, 3) := by decide +kernel
theorem dX7_take_148 : decode cX7_take 148 = .ok (.goto 40, 3) := by decide +kernel
theorem dX7_take_151 : decode cX7_take 151 = .ok (.iload_n 2, 1) := by decide +kernel
theorem dX7_take_152 : decode cX7_take 152 = .ok (.bipush 30, 2) := by decide +kernel
theorem dX7_take_154 : decode cX7_take 154 = .ok (.if_icmp .ge 12, 3) := by decide +kernel
theorem dX7_take_157 : decode cX7_take 157 = .ok (.aload_n 0, 1) := by decide +kernel
theorem dX7_take_158 : decode cX7_take 158 = .ok (.iload_n 1, 1) := by decide +kernel
theorem dX7_take_159 : decode cX7_take 159 = .ok (.iload_n 2, 1) := by decide +kernel
theorem dX7_take_160 : decode cX7_take 160 = .ok (.invokevirtual 184, 3) := by decide +kernel
theorem dX7_take_163 : decode cX7_take 163 = .ok (.goto 25, 3) := by decide +kernel
theorem dX7_take_166 : decode cX7_take 166 = .ok (.aload_n 0, 1) := by decide +kernel
theorem dX7_take_167 : decode cX7_take 167 = .ok (.iload_n 1, 1) := by decide +kernel
theorem dX7_take_168 : decode cX7_take 168 = .ok (.iload_n 2, 1) := by decide +kernel
theorem dX7_take_169 : decode cX7_take 169 = .ok (.bipush 30, 2) := by decide +kernel
theorem dX7_take_171 : decode cX7_take 171 = .ok (.if_icmp .ne 7, 3) := by decide +kernel
theorem dX7_take_174 : decode cX7_take 174 = .ok (.iconst 1, 1) := by decide +kernel
theorem dX7_take_175 : decode cX7_take 175 = .ok (.goto 4, 3) := by decide +kernel
theorem dX7_take_178 : decode cX7_take 178 = .ok (.iconst (-1), 1) := by decide +kernel
theorem dX7_take_179 : decode cX7_take 179 = .ok (.invokevirtual 181, 3) := by decide +kernel
theorem dX7_take_182 : decode cX7_take 182 = .ok (.aload_n 0, 1) := by decide +kernel
theorem dX7_take_183 : decode cX7_take 183 = .ok (.iload_n 1, 1) := by decide +kernel
theorem dX7_take_184 : decode cX7_take 184 = .ok (.iconst 0, 1) := by decide +kernel
theorem dX7_take_185 : decode cX7_take 185 = .ok (.invokevirtual 174, 3) := by decide +kernel
theorem dX7_take_188 : decode cX7_take 188 = .ok (.return_, 1) := by decide +kernel
set_option maxRecDepth 100000 in
theorem ggX7_takeSigned_X7_bit : GoodIn wsX7_takeSigned wsX7_bit := goodIn_r _ [5, 6, 7, 8, 9, 10, 11, 12, 4, 13, 28, 29, 30, 31, 32, 33, 34, 35, 36, 37, 38, 39, 40, 41, 42, 43, 44, 45, 46, 47, 48, 49, 50, 51, 52, 53, 54, 55, 56, 57, 58, 59, 60, 61, 62, 63, 64, 65, 66, 67, 68, 69] rfl (by decide +kernel)
set_option maxRecDepth 100000 in
theorem gX7_takeSigned_X7_bit : GoodIn wsX7_takeSigned (wsV RX7 126 RX7 yX7_bit wsX7_bit) := goodIn_app (goodIn_of _ (by decide +kernel)) ggX7_takeSigned_X7_bit
set_option maxRecDepth 100000 in
theorem ggX7_takeSigned_X7_put : GoodIn wsX7_takeSigned wsX7_put := goodIn_r _ [17, 18, 19, 10, 11, 12, 4, 13, 8, 28, 29, 30, 31, 32, 33, 34, 35, 36, 37, 38, 39, 40, 41, 42, 43, 44, 45, 46, 47, 48, 49, 50, 51, 52, 53, 54, 55, 56, 57, 58, 59, 60, 61, 62, 63, 64, 65, 66, 67, 68, 69] rfl (by decide +kernel)
set_option maxRecDepth 100000 in
theorem gX7_takeSigned_X7_put : GoodIn wsX7_takeSigned (wsV RX7 181 RX7 yX7_put wsX7_put) := goodIn_app (goodIn_of _ (by decide +kernel)) ggX7_takeSigned_X7_put
set_option maxRecDepth 100000 in
theorem ggX7_takeSigned_X7_bits : GoodIn wsX7_takeSigned wsX7_bits := goodIn_r _ [23, 1, 2, 3, 4, 5, 6, 7, 8, 9, 10, 11, 12, 13, 28, 29, 30, 31, 32, 33, 34, 35, 36, 37, 38, 39, 40, 41, 42, 43, 44, 45, 46, 47, 48, 49, 50, 51, 52, 53, 54, 55, 56, 57, 58, 59, 60, 61, 62, 63, 64, 65, 66, 67, 68, 69] rfl (by decide +kernel)
set_option maxRecDepth 100000 in
theorem gX7_takeSigned_X7_bits : GoodIn wsX7_takeSigned (wsV RX7 130 RX7 yX7_bits wsX7_bits) := goodIn_app (goodIn_of _ (by decide +kernel)) ggX7_takeSigned_X7_bits
set_option maxRecDepth 100000 in
theorem ggX7_takeSigned_X7_pass : GoodIn wsX7_takeSigned wsX7_pass := goodIn_r _ [27, 18, 10, 11, 12, 4, 13, 8, 28, 29, 30, 31, 32, 33, 34, 35, 36, 37, 38, 39, 40, 41, 42, 43, 44, 45, 46, 47, 48, 49, 50, 51, 52, 53, 54, 55, 56, 57, 58, 59, 60, 61, 62, 63, 64, 65, 66, 67, 68, 69] rfl (by decide +kernel)
set_option maxRecDepth 100000 in
theorem gX7_takeSigned_X7_pass : GoodIn wsX7_takeSigned (wsV RX7 178 RX7 yX7_pass wsX7_pass) := goodIn_app (goodIn_of _ (by decide +kernel)) ggX7_takeSigned_X7_pass
theorem dX7_takeSigned_0 : decode cX7_takeSigned 0 = .ok (.aload_n 0, 1) := by decide +kernel
theorem dX7_takeSigned_1 : decode cX7_takeSigned 1 = .ok (.invokevirtual 126, 3) := by decide +kernel
theorem dX7_takeSigned_4 : decode cX7_takeSigned 4 = .ok (.iconst 1, 1) := by decide +kernel
theorem dX7_takeSigned_5 : decode cX7_takeSigned 5 = .ok (.if_icmp .ne 7, 3) := by decide +kernel
theorem dX7_takeSigned_8 : decode cX7_takeSigned 8 = .ok (.iconst (-1), 1) := by decide +kernel
theorem dX7_takeSigned_9 : decode cX7_takeSigned 9 = .ok (.goto 4, 3) := by decide +kernel
theorem dX7_takeSigned_12 : decode cX7_takeSigned 12 = .ok (.iconst 1, 1) := by decide +kernel
theorem dX7_takeSigned_13 : decode cX7_takeSigned 13 = .ok (.istore_n 3, 1) := by decide +kernel
theorem dX7_takeSigned_14 : decode cX7_takeSigned 14 = .ok (.iload_n 2, 1) := by decide +kernel
theorem dX7_takeSigned_15 : decode cX7_takeSigned 15 = .ok (.bipush 15, 2) := by decide +kernel
theorem dX7_takeSigned_17 : decode cX7_takeSigned 17 = .ok (.if_icmp .ge 17, 3) := by decide +kernel
theorem dX7_takeSigned_20 : decode cX7_takeSigned 20 = .ok (.aload_n 0, 1) := by decide +kernel
theorem dX7_takeSigned_21 : decode cX7_takeSigned 21 = .ok (.iload_n 1, 1) := by decide +kernel
theorem dX7_takeSigned_22 : decode cX7_takeSigned 22 = .ok (.iload_n 3, 1) := by decide +kernel
theorem dX7_takeSigned_23 : decode cX7_takeSigned 23 = .ok (.iload_n 2, 1) := by decide +kernel
theorem dX7_takeSigned_24 : decode cX7_takeSigned 24 = .ok (.bipush 8, 2) := by decide +kernel
theorem dX7_takeSigned_26 : decode cX7_takeSigned 26 = .ok (.isub, 1) := by decide +kernel
theorem dX7_takeSigned_27 : decode cX7_takeSigned 27 = .ok (.imul, 1) := by decide +kernel
theorem dX7_takeSigned_28 : decode cX7_takeSigned 28 = .ok (.invokevirtual 181, 3) := by decide +kernel
theorem dX7_takeSigned_31 : decode cX7_takeSigned 31 = .ok (.goto 225, 3) := by decide +kernel
theorem dX7_takeSigned_34 : decode cX7_takeSigned 34 = .ok (.iload_n 2, 1) := by decide +kernel
theorem dX7_takeSigned_35 : decode cX7_takeSigned 35 = .ok (.bipush 21, 2) := by decide +kernel
theorem dX7_takeSigned_37 : decode cX7_takeSigned 37 = .ok (.if_icmp .ge 112, 3) := by decide +kernel
theorem dX7_takeSigned_40 : decode cX7_takeSigned 40 = .ok (.iload_n 2, 1) := by decide +kernel
theorem dX7_takeSigned_41 : decode cX7_takeSigned 41 = .ok (.bipush 15, 2) := by decide +kernel
theorem dX7_takeSigned_43 : decode cX7_takeSigned 43 = .ok (.if_icmp .ne 14, 3) := by decide +kernel
theorem dX7_takeSigned_46 : decode cX7_takeSigned 46 = .ok (.bipush 7, 2) := by decide +kernel
theorem dX7_takeSigned_48 : decode cX7_takeSigned 48 = .ok (.aload_n 0, 1) := by decide +kernel
theorem dX7_takeSigned_49 : decode cX7_takeSigned 49 = .ok (.iconst 1, 1) := by decide +kernel
theorem dX7_takeSigned_50 : decode cX7_takeSigned 50 = .ok (.invokevirtual 130, 3) := by decide +kernel
theorem dX7_takeSigned_53 : decode cX7_takeSigned 53 = .ok (.iadd, 1) := by decide +kernel
theorem dX7_takeSigned_54 : decode cX7_takeSigned 54 = .ok (.goto 81, 3) := by decide +kernel
theorem dX7_takeSigned_57 : decode cX7_takeSigned 57 = .ok (.iload_n 2, 1) := by decide +kernel
theorem dX7_takeSigned_58 : decode cX7_takeSigned 58 = .ok (.bipush 16, 2) := by decide +kernel
theorem dX7_takeSigned_60 : decode cX7_takeSigned 60 = .ok (.if_icmp .ne 14, 3) := by decide +kernel
theorem dX7_takeSigned_63 : decode cX7_takeSigned 63 = .ok (.bipush 9, 2) := by decide +kernel
theorem dX7_takeSigned_65 : decode cX7_takeSigned 65 = .ok (.aload_n 0, 1) := by decide +kernel
theorem dX7_takeSigned_66 : decode cX7_takeSigned 66 = .ok (.iconst 2, 1) := by decide +kernel
theorem dX7_takeSigned_67 : decode cX7_takeSigned 67 = .ok (.invokevirtual 130, 3) := by decide +kernel
theorem dX7_takeSigned_70 : decode cX7_takeSigned 70 = .ok (.iadd, 1) := by decide +kernel
theorem dX7_takeSigned_71 : decode cX7_takeSigned 71 = .ok (.goto 64, 3) := by decide +kernel
theorem dX7_takeSigned_74 : decode cX7_takeSigned 74 = .ok (.iload_n 2, 1) := by decide +kernel
theorem dX7_takeSigned_75 : decode cX7_takeSigned 75 = .ok (.bipush 17, 2) := by decide +kernel
theorem dX7_takeSigned_77 : decode cX7_takeSigned 77 = .ok (.if_icmp .ne 14, 3) := by decide +kernel
theorem dX7_takeSigned_80 : decode cX7_takeSigned 80 = .ok (.bipush 13, 2) := by decide +kernel
theorem dX7_takeSigned_82 : decode cX7_takeSigned 82 = .ok (.aload_n 0, 1) := by decide +kernel
theorem dX7_takeSigned_83 : decode cX7_takeSigned 83 = .ok (.iconst 3, 1) := by decide +kernel
theorem dX7_takeSigned_84 : decode cX7_takeSigned 84 = .ok (.invokevirtual 130, 3) := by decide +kernel
theorem dX7_takeSigned_87 : decode cX7_takeSigned 87 = .ok (.iadd, 1) := by decide +kernel
theorem dX7_takeSigned_88 : decode cX7_takeSigned 88 = .ok (.goto 47, 3) := by decide +kernel
theorem dX7_takeSigned_91 : decode cX7_takeSigned 91 = .ok (.iload_n 2, 1) := by decide +kernel
theorem dX7_takeSigned_92 : decode cX7_takeSigned 92 = .ok (.bipush 18, 2) := by decide +kernel
theorem dX7_takeSigned_94 : decode cX7_takeSigned 94 = .ok (.if_icmp .ne 14, 3) := by decide +kernel
theorem dX7_takeSigned_97 : decode cX7_takeSigned 97 = .ok (.bipush 21, 2) := by decide +kernel
theorem dX7_takeSigned_99 : decode cX7_takeSigned 99 = .ok (.aload_n 0, 1) := by decide +kernel
theorem dX7_takeSigned_100 : decode cX7_takeSigned 100 = .ok (.iconst 4, 1) := by decide +kernel
theorem dX7_takeSigned_101 : decode cX7_takeSigned 101 = .ok (.invokevirtual 130, 3) := by decide +kernel
theorem dX7_takeSigned_104 : decode cX7_takeSigned 104 = .ok (.iadd, 1) := by decide +kernel
theorem dX7_takeSigned_105 : decode cX7_takeSigned 105 = .ok (.goto 30, 3) := by decide +kernel
theorem dX7_takeSigned_108 : decode cX7_takeSigned 108 = .ok (.iload_n 2, 1) := by decide +kernel
theorem dX7_takeSigned_109 : decode cX7_takeSigned 109 = .ok (.bipush 19, 2) := by decide +kernel
theorem dX7_takeSigned_111 : decode cX7_takeSigned 111 = .ok (.if_icmp .ne 15, 3) := by decide +kernel
theorem dX7_takeSigned_114 : decode cX7_takeSigned 114 = .ok (.bipush 37, 2) := by decide +kernel
theorem dX7_takeSigned_116 : decode cX7_takeSigned 116 = .ok (.aload_n 0, 1) := by decide +kernel
theorem dX7_takeSigned_117 : decode cX7_takeSigned 117 = .ok (.bipush 6, 2) := by decide +kernel
theorem dX7_takeSigned_119 : decode cX7_takeSigned 119 = .ok (.invokevirtual 130, 3) := by decide +kernel
theorem dX7_takeSigned_122 : decode cX7_takeSigned 122 = .ok (.iadd, 1) := by decide +kernel
theorem dX7_takeSigned_123 : decode cX7_takeSigned 123 = .ok (.goto 12, 3) := by decide +kernel
theorem dX7_takeSigned_126 : decode cX7_takeSigned 126 = .ok (.bipush 101, 2) := by decide +kernel
theorem dX7_takeSigned_128 : decode cX7_takeSigned 128 = .ok (.aload_n 0, 1) := by decide +kernel
theorem dX7_takeSigned_129 : decode cX7_takeSigned 129 = .ok (.bipush 9, 2) := by decide +kernel
theorem dX7_takeSigned_131 : decode cX7_takeSigned 131 = .ok (.invokevirtual 130, 3) := by decide +kernel
theorem dX7_takeSigned_134 : decode cX7_takeSigned 134 = .ok (.iadd, 1) := by decide +kernel
theorem dX7_takeSigned_135 : decode cX7_takeSigned 135 = .ok (.istore 4, 2) := by decide +kernel
theorem dX7_takeSigned_137 : decode cX7_takeSigned 137 = .ok (.aload_n 0, 1) := by decide +kernel
theorem dX7_takeSigned_138 : decode cX7_takeSigned 138 = .ok (.iload_n 1, 1) := by decide +kernel
theorem dX7_takeSigned_139 : decode cX7_takeSigned 139 = .ok (.iload_n 3, 1) := by decide +kernel
theorem dX7_takeSigned_140 : decode cX7_takeSigned 140 = .ok (.iload 4, 2) := by decide +kernel
theorem dX7_takeSigned_142 : decode cX7_takeSigned 142 = .ok (.imul, 1) := by decide +kernel
theorem dX7_takeSigned_143 : decode cX7_takeSigned 143 = .ok (.invokevirtual 181, 3) := by decide +kernel
theorem dX7_takeSigned_146 : decode cX7_takeSigned 146 = .ok (.goto 110, 3) := by decide +kernel
theorem dX7_takeSigned_149 : decode cX7_takeSigned 149 = .ok (.iload_n 2, 1) := by decide +kernel
theorem dX7_takeSigned_150 : decode cX7_takeSigned 150 = .ok (.bipush 26, 2) := by decide +kernel
theorem dX7_takeSigned_152 : decode cX7_takeSigned 152 = .ok (.if_icmp .ge 21, 3) := by decide +kernel
theorem dX7_takeSigned_155 : decode cX7_takeSigned 155 = .ok (.aload_n 0, 1) := by decide +kernel
theorem dX7_takeSigned_156 : decode cX7_takeSigned 156 = .ok (.iload_n 1, 1) := by decide +kernel
theorem dX7_takeSigned_157 : decode cX7_takeSigned 157 = .ok (.iload_n 2, 1) := by decide +kernel
theorem dX7_takeSigned_158 : decode cX7_takeSigned 158 = .ok (.bipush 20, 2) := by decide +kernel
theorem dX7_takeSigned_160 : decode cX7_takeSigned 160 = .ok (.isub, 1) := by decide +kernel
theorem dX7_takeSigned_161 : decode cX7_takeSigned 161 = .ok (.invokevirtual 178, 3) := by decide +kernel
theorem dX7_takeSigned_164 : decode cX7_takeSigned 164 = .ok (.aload_n 0, 1) := by decide +kernel
theorem dX7_takeSigned_165 : decode cX7_takeSigned 165 = .ok (.iload_n 1, 1) := by decide +kernel
theorem dX7_takeSigned_166 : decode cX7_takeSigned 166 = .ok (.iload_n 3, 1) := by decide +kernel
theorem dX7_takeSigned_167 : decode cX7_takeSigned 167 = .ok (.invokevirtual 181, 3) := by decide +kernel
theorem dX7_takeSigned_170 : decode cX7_takeSigned 170 = .ok (.goto 86, 3) := by decide +kernel
theorem dX7_takeSigned_173 : decode cX7_takeSigned 173 = .ok (.iload_n 2, 1) := by decide +kernel
theorem dX7_takeSigned_174 : decode cX7_takeSigned 174 = .ok (.bipush 28, 2) := by decide +kernel
theorem dX7_takeSigned_176 : decode cX7_takeSigned 176 = .ok (.if_icmp .ge 42, 3) := by decide +kernel
theorem dX7_takeSigned_179 : decode cX7_takeSigned 179 = .ok (.aload_n 0, 1) := by decide +kernel
theorem dX7_takeSigned_180 : decode cX7_takeSigned 180 = .ok (.iload_n 1, 1) := by decide +kernel
theorem dX7_takeSigned_181 : decode cX7_takeSigned 181 = .ok (.iload_n 2, 1) := by decide +kernel
theorem dX7_takeSigned_182 : decode cX7_takeSigned 182 = .ok (.bipush 26, 2) := by decide +kernel
theorem dX7_takeSigned_184 : decode cX7_takeSigned 184 = .ok (.if_icmp .ne 14, 3) := by decide +kernel
theorem dX7_takeSigned_187 : decode cX7_takeSigned 187 = .ok (.bipush 6, 2) := by decide +kernel
theorem dX7_takeSigned_189 : decode cX7_takeSigned 189 = .ok (.aload_n 0, 1) := by decide +kernel
theorem dX7_takeSigned_190 : decode cX7_takeSigned 190 = .ok (.iconst 2, 1) := by decide +kernel
theorem dX7_takeSigned_191 : decode cX7_takeSigned 191 = .ok (.invokevirtual 130, 3) := by decide +kernel
theorem dX7_takeSigned_194 : decode cX7_takeSigned 194 = .ok (.iadd, 1) := by decide +kernel
theorem dX7_takeSigned_195 : decode cX7_takeSigned 195 = .ok (.goto 11, 3) := by decide +kernel
theorem dX7_takeSigned_198 : decode cX7_takeSigned 198 = .ok (.bipush 10, 2) := by decide +kernel
theorem dX7_takeSigned_200 : decode cX7_takeSigned 200 = .ok (.aload_n 0, 1) := by decide +kernel
theorem dX7_takeSigned_201 : decode cX7_takeSigned 201 = .ok (.iconst 3, 1) := by decide +kernel
theorem dX7_takeSigned_202 : decode cX7_takeSigned 202 = .ok (.invokevirtual 130, 3) := by decide +kernel
theorem dX7_takeSigned_205 : decode cX7_takeSigned 205 = .ok (.iadd, 1) := by decide +kernel
theorem dX7_takeSigned_206 : decode cX7_takeSigned 206 = .ok (.invokevirtual 178, 3) := by decide +kernel
theorem dX7_takeSigned_209 : decode cX7_takeSigned 209 = .ok (.aload_n 0, 1) := by decide +kernel
theorem dX7_takeSigned_210 : decode cX7_takeSigned 210 = .ok (.iload_n 1, 1) := by decide +kernel
theorem dX7_takeSigned_211 : decode cX7_takeSigned 211 = .ok (.iload_n 3, 1) := by decide +kernel
theorem dX7_takeSigned_212 : decode cX7_takeSigned 212 = .ok (.invokevirtual 181, 3) := by decide +kernel
theorem dX7_takeSigned_215 : decode cX7_takeSigned 215 = .ok (.goto 41, 3) := by decide +kernel
theorem dX7_takeSigned_218 : decode cX7_takeSigned 218 = .ok (.iconst 2, 1) := by decide +kernel
theorem dX7_takeSigned_219 : decode cX7_takeSigned 219 = .ok (.aload_n 0, 1) := by decide +kernel
theorem dX7_takeSigned_220 : decode cX7_takeSigned 220 = .ok (.invokevirtual 126, 3) := by decide +kernel
theorem dX7_takeSigned_223 : decode cX7_takeSigned 223 = .ok (.iadd, 1) := by decide +kernel
theorem dX7_takeSigned_224 : decode cX7_takeSigned 224 = .ok (.istore 4, 2) := by decide +kernel
theorem dX7_takeSigned_226 : decode cX7_takeSigned 226 = .ok (.aload_n 0, 1) := by decide +kernel
theorem dX7_takeSigned_227 : decode cX7_takeSigned 227 = .ok (.iload_n 1, 1) := by decide +kernel
theorem dX7_takeSigned_228 : decode cX7_takeSigned 228 = .ok (.iload_n 2, 1) := by decide +kernel
theorem dX7_takeSigned_229 : decode cX7_takeSigned 229 = .ok (.bipush 28, 2) := by decide +kernel
theorem dX7_takeSigned_231 : decode cX7_takeSigned 231 = .ok (.if_icmp .ne 7, 3) := by decide +kernel
theorem dX7_takeSigned_234 : decode cX7_takeSigned 234 = .ok (.iconst 1, 1) := by decide +kernel
theorem dX7_takeSigned_235 : decode cX7_takeSigned 235 = .ok (.goto 9, 3) := by decide +kernel
theorem dX7_takeSigned_238 : decode cX7_takeSigned 238 = .ok (.iconst 2, 1) := by decide +kernel
theorem dX7_takeSigned_239 : decode cX7_takeSigned 239 = .ok (.aload_n 0, 1) := by decide +kernel
theorem dX7_takeSigned_240 : decode cX7_takeSigned 240 = .ok (.invokevirtual 126, 3) := by decide +kernel
theorem dX7_takeSigned_243 : decode cX7_takeSigned 243 = .ok (.iadd, 1) := by decide +kernel
theorem dX7_takeSigned_244 : decode cX7_takeSigned 244 = .ok (.invokevirtual 178, 3) := by decide +kernel
theorem dX7_takeSigned_247 : decode cX7_takeSigned 247 = .ok (.aload_n 0, 1) := by decide +kernel
theorem dX7_takeSigned_248 : decode cX7_takeSigned 248 = .ok (.iload_n 1, 1) := by decide +kernel
theorem dX7_takeSigned_249 : decode cX7_takeSigned 249 = .ok (.iload_n 3, 1) := by decide +kernel
theorem dX7_takeSigned_250 : decode cX7_takeSigned 250 = .ok (.iload 4, 2) := by decide +kernel
theorem dX7_takeSigned_252 : decode cX7_takeSigned 252 = .ok (.imul, 1) := by decide +kernel
theorem dX7_takeSigned_253 : decode cX7_takeSigned 253 = .ok (.invokevirtual 181, 3) := by decide +kernel
theorem dX7_takeSigned_256 : decode cX7_takeSigned 256 = .ok (.return_, 1) := by decide +kernel
set_option maxRecDepth 100000 in
theorem ggX7_readTokens_X7_readToken : GoodIn wsX7_readTokens wsX7_readToken := goodIn_r _ [11, 12, 13, 14, 15, 16, 10, 17, 18, 19, 20, 21, 22, 23, 24, 25, 50, 51, 52, 53, 54, 55, 56, 57, 58, 59, 60, 61, 62, 63, 64, 65, 66, 67, 68, 69, 70, 71, 72, 73, 74, 75, 76, 77, 78, 79, 80, 81, 82, 83, 84, 85, 86, 87, 88, 89, 90, 91] rfl (by decide +kernel)
set_option maxRecDepth 100000 in
theorem gX7_readTokens_X7_readToken : GoodIn wsX7_readTokens (wsV RX7 187 RX7 yX7_readToken wsX7_readToken) := goodIn_app (goodIn_of _ (by decide +kernel)) ggX7_readTokens_X7_readToken
set_option maxRecDepth 100000 in
theorem ggX7_readTokens_X7_take : GoodIn wsX7_readTokens wsX7_take := goodIn_r _ [29, 30, 31, 32, 10, 33, 2, 3, 34, 35, 36, 37, 14, 15, 16, 17, 18, 19, 20, 21, 22, 23, 24, 25, 38, 39, 40, 41, 42, 43, 44, 45, 1, 46, 47, 48, 49, 50, 51, 52, 53, 54, 55, 56, 57, 58, 59, 60, 61, 62, 63, 64, 65, 66, 67, 68, 69, 70, 71, 72, 73, 74, 75, 76, 77, 78, 79, 80, 81, 82, 83, 84, 85, 86, 87, 88, 89, 90, 91] rfl (by decide +kernel)
set_option maxRecDepth 100000 in
theorem gX7_readTokens_X7_take : GoodIn wsX7_readTokens (wsV RX7 190 RX7 yX7_take wsX7_take) := goodIn_app (goodIn_of _ (by decide +kernel)) ggX7_readTokens_X7_take
theorem dX7_readTokens_0 : decode cX7_readTokens 0 = .ok (.iconst 0, 1) := by decide +kernel
theorem dX7_readTokens_1 : decode cX7_readTokens 1 = .ok (.istore_n 1, 1) := by decide +kernel
theorem dX7_readTokens_2 : decode cX7_readTokens 2 = .ok (.iload_n 1, 1) := by decide +kernel
theorem dX7_readTokens_3 : decode cX7_readTokens 3 = .ok (.sipush 2304, 3) := by decide +kernel
theorem dX7_readTokens_6 : decode cX7_readTokens 6 = .ok (.if_icmp .ge 16, 3) := by decide +kernel
theorem dX7_readTokens_9 : decode cX7_readTokens 9 = .ok (.aload_n 0, 1) := by decide +kernel
theorem dX7_readTokens_10 : decode cX7_readTokens 10 = .ok (.getfield 74, 3) := by decide +kernel
theorem dX7_readTokens_13 : decode cX7_readTokens 13 = .ok (.iload_n 1, 1) := by decide +kernel
theorem dX7_readTokens_14 : decode cX7_readTokens 14 = .ok (.iconst 0, 1) := by decide +kernel
theorem dX7_readTokens_15 : decode cX7_readTokens 15 = .ok (.iastore, 1) := by decide +kernel
theorem dX7_readTokens_16 : decode cX7_readTokens 16 = .ok (.iinc 1 1, 3) := by decide +kernel
theorem dX7_readTokens_19 : decode cX7_readTokens 19 = .ok (.goto (-17), 3) := by decide +kernel
theorem dX7_readTokens_22 : decode cX7_readTokens 22 = .ok (.iconst 0, 1) := by decide +kernel
theorem dX7_readTokens_23 : decode cX7_readTokens 23 = .ok (.istore_n 1, 1) := by decide +kernel
theorem dX7_readTokens_24 : decode cX7_readTokens 24 = .ok (.iload_n 1, 1) := by decide +kernel
theorem dX7_readTokens_25 : decode cX7_readTokens 25 = .ok (.bipush 36, 2) := by decide +kernel
theorem dX7_readTokens_27 : decode cX7_readTokens 27 = .ok (.if_icmp .ge 16, 3) := by decide +kernel
theorem dX7_readTokens_30 : decode cX7_readTokens 30 = .ok (.aload_n 0, 1) := by decide +kernel
theorem dX7_readTokens_31 : decode cX7_readTokens 31 = .ok (.getfield 71, 3) := by decide +kernel
theorem dX7_readTokens_34 : decode cX7_readTokens 34 = .ok (.iload_n 1, 1) := by decide +kernel
theorem dX7_readTokens_35 : decode cX7_readTokens 35 = .ok (.iconst 0, 1) := by decide +kernel
theorem dX7_readTokens_36 : decode cX7_readTokens 36 = .ok (.iastore, 1) := by decide +kernel
theorem dX7_readTokens_37 : decode cX7_readTokens 37 = .ok (.iinc 1 1, 3) := by decide +kernel
theorem dX7_readTokens_40 : decode cX7_readTokens 40 = .ok (.goto (-16), 3) := by decide +kernel
theorem dX7_readTokens_43 : decode cX7_readTokens 43 = .ok (.aload_n 0, 1) := by decide +kernel
theorem dX7_readTokens_44 : decode cX7_readTokens 44 = .ok (.iconst 0, 1) := by decide +kernel
theorem dX7_readTokens_45 : decode cX7_readTokens 45 = .ok (.putfield 171, 3) := by decide +kernel
theorem dX7_readTokens_48 : decode cX7_readTokens 48 = .ok (.iconst 0, 1) := by decide +kernel
theorem dX7_readTokens_49 : decode cX7_readTokens 49 = .ok (.istore_n 1, 1) := by decide +kernel
theorem dX7_readTokens_50 : decode cX7_readTokens 50 = .ok (.iload_n 1, 1) := by decide +kernel
theorem dX7_readTokens_51 : decode cX7_readTokens 51 = .ok (.bipush 64, 2) := by decide +kernel
theorem dX7_readTokens_53 : decode cX7_readTokens 53 = .ok (.if_icmp .ge 97, 3) := by decide +kernel
theorem dX7_readTokens_56 : decode cX7_readTokens 56 = .ok (.iconst 0, 1) := by decide +kernel
theorem dX7_readTokens_57 : decode cX7_readTokens 57 = .ok (.istore_n 2, 1) := by decide +kernel
theorem dX7_readTokens_58 : decode cX7_readTokens 58 = .ok (.iload_n 2, 1) := by decide +kernel
theorem dX7_readTokens_59 : decode cX7_readTokens 59 = .ok (.aload_n 0, 1) := by decide +kernel
theorem dX7_readTokens_60 : decode cX7_readTokens 60 = .ok (.getfield 99, 3) := by decide +kernel
theorem dX7_readTokens_63 : decode cX7_readTokens 63 = .ok (.if_icmp .ge 81, 3) := by decide +kernel
theorem dX7_readTokens_66 : decode cX7_readTokens 66 = .ok (.aload_n 0, 1) := by decide +kernel
theorem dX7_readTokens_67 : decode cX7_readTokens 67 = .ok (.getfield 47, 3) := by decide +kernel
theorem dX7_readTokens_70 : decode cX7_readTokens 70 = .ok (.iload_n 2, 1) := by decide +kernel
theorem dX7_readTokens_71 : decode cX7_readTokens 71 = .ok (.iaload, 1) := by decide +kernel
theorem dX7_readTokens_72 : decode cX7_readTokens 72 = .ok (.istore_n 3, 1) := by decide +kernel
theorem dX7_readTokens_73 : decode cX7_readTokens 73 = .ok (.aload_n 0, 1) := by decide +kernel
theorem dX7_readTokens_74 : decode cX7_readTokens 74 = .ok (.getfield 62, 3) := by decide +kernel
theorem dX7_readTokens_77 : decode cX7_readTokens 77 = .ok (.iload_n 3, 1) := by decide +kernel
theorem dX7_readTokens_78 : decode cX7_readTokens 78 = .ok (.iaload, 1) := by decide +kernel
theorem dX7_readTokens_79 : decode cX7_readTokens 79 = .ok (.ifCond .le 59, 3) := by decide +kernel
theorem dX7_readTokens_82 : decode cX7_readTokens 82 = .ok (.aload_n 0, 1) := by decide +kernel
theorem dX7_readTokens_83 : decode cX7_readTokens 83 = .ok (.getfield 71, 3) := by decide +kernel
theorem dX7_readTokens_86 : decode cX7_readTokens 86 = .ok (.iload_n 3, 1) := by decide +kernel
theorem dX7_readTokens_87 : decode cX7_readTokens 87 = .ok (.iaload, 1) := by decide +kernel
theorem dX7_readTokens_88 : decode cX7_readTokens 88 = .ok (.iload_n 1, 1) := by decide +kernel
theorem dX7_readTokens_89 : decode cX7_readTokens 89 = .ok (.if_icmp .ne 49, 3) := by decide +kernel
theorem dX7_readTokens_92 : decode cX7_readTokens 92 = .ok (.aload_n 0, 1) := by decide +kernel
theorem dX7_readTokens_93 : decode cX7_readTokens 93 = .ok (.getfield 171, 3) := by decide +kernel
theorem dX7_readTokens_96 : decode cX7_readTokens 96 = .ok (.ifCond .le 24, 3) := by decide +kernel
theorem dX7_readTokens_99 : decode cX7_readTokens 99 = .ok (.aload_n 0, 1) := by decide +kernel
theorem dX7_readTokens_100 : decode cX7_readTokens 100 = .ok (.getfield 71, 3) := by decide +kernel
theorem dX7_readTokens_103 : decode cX7_readTokens 103 = .ok (.iload_n 3, 1) := by decide +kernel
theorem dX7_readTokens_104 : decode cX7_readTokens 104 = .ok (.bipush 64, 2) := by decide +kernel
theorem dX7_readTokens_106 : decode cX7_readTokens 106 = .ok (.iastore, 1) := by decide +kernel
theorem dX7_readTokens_107 : decode cX7_readTokens 107 = .ok (.aload_n 0, 1) := by decide +kernel
theorem dX7_readTokens_108 : decode cX7_readTokens 108 = .ok (.dup, 1) := by decide +kernel
theorem dX7_readTokens_109 : decode cX7_readTokens 109 = .ok (.getfield 171, 3) := by decide +kernel
theorem dX7_readTokens_112 : decode cX7_readTokens 112 = .ok (.iconst 1, 1) := by decide +kernel
theorem dX7_readTokens_113 : decode cX7_readTokens 113 = .ok (.isub, 1) := by decide +kernel
theorem dX7_readTokens_114 : decode cX7_readTokens 114 = .ok (.putfield 171, 3) := by decide +kernel
theorem dX7_readTokens_117 : decode cX7_readTokens 117 = .ok (.goto 21, 3) := by decide +kernel
theorem dX7_readTokens_120 : decode cX7_readTokens 120 = .ok (.aload_n 0, 1) := by decide +kernel
theorem dX7_readTokens_121 : decode cX7_readTokens 121 = .ok (.iload_n 3, 1) := by decide +kernel
theorem dX7_readTokens_122 : decode cX7_readTokens 122 = .ok (.aload_n 0, 1) := by decide +kernel
theorem dX7_readTokens_123 : decode cX7_readTokens 123 = .ok (.iload_n 1, 1) := by decide +kernel
theorem dX7_readTokens_124 : decode cX7_readTokens 124 = .ok (.ifCond .ne 7, 3) := by decide +kernel
theorem dX7_readTokens_127 : decode cX7_readTokens 127 = .ok (.iconst 0, 1) := by decide +kernel
theorem dX7_readTokens_128 : decode cX7_readTokens 128 = .ok (.goto 4, 3) := by decide +kernel
theorem dX7_readTokens_131 : decode cX7_readTokens 131 = .ok (.iconst 1, 1) := by decide +kernel
theorem dX7_readTokens_132 : decode cX7_readTokens 132 = .ok (.invokevirtual 187, 3) := by decide +kernel
theorem dX7_readTokens_135 : decode cX7_readTokens 135 = .ok (.invokevirtual 190, 3) := by decide +kernel
theorem dX7_readTokens_138 : decode cX7_readTokens 138 = .ok (.iinc 2 1, 3) := by decide +kernel
theorem dX7_readTokens_141 : decode cX7_readTokens 141 = .ok (.goto (-83), 3) := by decide +kernel
theorem dX7_readTokens_144 : decode cX7_readTokens 144 = .ok (.iinc 1 1, 3) := by decide +kernel
theorem dX7_readTokens_147 : decode cX7_readTokens 147 = .ok (.goto (-97), 3) := by decide +kernel
theorem dX7_readTokens_150 : decode cX7_readTokens 150 = .ok (.return_, 1) := by decide +kernel
theorem dX7_kindOf_0 : decode cX7_kindOf 0 = .ok (.iload_n 0, 1) := by decide +kernel
theorem dX7_kindOf_1 : decode cX7_kindOf 1 = .ok (.iconst 2, 1) := by decide +kernel
theorem dX7_kindOf_2 : decode cX7_kindOf 2 = .ok (.if_icmp .ne 7, 3) := by decide +kernel
theorem dX7_kindOf_5 : decode cX7_kindOf 5 = .ok (.iconst 0, 1) := by decide +kernel
theorem dX7_kindOf_6 : decode cX7_kindOf 6 = .ok (.goto 21, 3) := by decide +kernel
theorem dX7_kindOf_9 : decode cX7_kindOf 9 = .ok (.iload_n 0, 1) := by decide +kernel
theorem dX7_kindOf_10 : decode cX7_kindOf 10 = .ok (.iconst 4, 1) := by decide +kernel
theorem dX7_kindOf_11 : decode cX7_kindOf 11 = .ok (.if_icmp .ne 7, 3) := by decide +kernel
theorem dX7_kindOf_14 : decode cX7_kindOf 14 = .ok (.iconst 1, 1) := by decide +kernel
theorem dX7_kindOf_15 : decode cX7_kindOf 15 = .ok (.goto 12, 3) := by decide +kernel
theorem dX7_kindOf_18 : decode cX7_kindOf 18 = .ok (.iload_n 0, 1) := by decide +kernel
theorem dX7_kindOf_19 : decode cX7_kindOf 19 = .ok (.ifCond .le 7, 3) := by decide +kernel
theorem dX7_kindOf_22 : decode cX7_kindOf 22 = .ok (.iconst 2, 1) := by decide +kernel
theorem dX7_kindOf_23 : decode cX7_kindOf 23 = .ok (.goto 4, 3) := by decide +kernel
theorem dX7_kindOf_26 : decode cX7_kindOf 26 = .ok (.iconst (-1), 1) := by decide +kernel
theorem dX7_kindOf_27 : decode cX7_kindOf 27 = .ok (.ireturn, 1) := by decide +kernel
set_option maxRecDepth 100000 in
theorem ggX7_guess_X7_kindOf : GoodIn wsX7_guess wsX7_kindOf := goodIn_r _ [9] rfl (by decide +kernel)
set_option maxRecDepth 100000 in
theorem gX7_guess_X7_kindOf : GoodIn wsX7_guess (va_wsS RX7 193 yX7_kindOf wsX7_kindOf) := goodIn_app (goodIn_of _ (by decide +kernel)) ggX7_guess_X7_kindOf
theorem dX7_guess_0 : decode cX7_guess 0 = .ok (.iconst 0, 1) := by decide +kernel
theorem dX7_guess_1 : decode cX7_guess 1 = .ok (.istore_n 1, 1) := by decide +kernel
theorem dX7_guess_2 : decode cX7_guess 2 = .ok (.iload_n 1, 1) := by decide +kernel
theorem dX7_guess_3 : decode cX7_guess 3 = .ok (.iconst 3, 1) := by decide +kernel
theorem dX7_guess_4 : decode cX7_guess 4 = .ok (.if_icmp .ge 16, 3) := by decide +kernel
theorem dX7_guess_7 : decode cX7_guess 7 = .ok (.aload_n 0, 1) := by decide +kernel
theorem dX7_guess_8 : decode cX7_guess 8 = .ok (.getfield 77, 3) := by decide +kernel
theorem dX7_guess_11 : decode cX7_guess 11 = .ok (.iload_n 1, 1) := by decide +kernel
theorem dX7_guess_12 : decode cX7_guess 12 = .ok (.iconst 0, 1) := by decide +kernel
theorem dX7_guess_13 : decode cX7_guess 13 = .ok (.iastore, 1) := by decide +kernel
theorem dX7_guess_14 : decode cX7_guess 14 = .ok (.iinc 1 1, 3) := by decide +kernel
theorem dX7_guess_17 : decode cX7_guess 17 = .ok (.goto (-15), 3) := by decide +kernel
theorem dX7_guess_20 : decode cX7_guess 20 = .ok (.iconst 0, 1) := by decide +kernel
theorem dX7_guess_21 : decode cX7_guess 21 = .ok (.istore_n 1, 1) := by decide +kernel
theorem dX7_guess_22 : decode cX7_guess 22 = .ok (.iload_n 1, 1) := by decide +kernel
theorem dX7_guess_23 : decode cX7_guess 23 = .ok (.aload_n 0, 1) := by decide +kernel
theorem dX7_guess_24 : decode cX7_guess 24 = .ok (.getfield 140, 3) := by decide +kernel
theorem dX7_guess_27 : decode cX7_guess 27 = .ok (.if_icmp .ge 227, 3) := by decide +kernel
theorem dX7_guess_30 : decode cX7_guess 30 = .ok (.iconst 0, 1) := by decide +kernel
theorem dX7_guess_31 : decode cX7_guess 31 = .ok (.istore_n 2, 1) := by decide +kernel
theorem dX7_guess_32 : decode cX7_guess 32 = .ok (.iload_n 2, 1) := by decide +kernel
theorem dX7_guess_33 : decode cX7_guess 33 = .ok (.aload_n 0, 1) := by decide +kernel
theorem dX7_guess_34 : decode cX7_guess 34 = .ok (.getfield 137, 3) := by decide +kernel
theorem dX7_guess_37 : decode cX7_guess 37 = .ok (.if_icmp .ge 211, 3) := by decide +kernel
theorem dX7_guess_40 : decode cX7_guess 40 = .ok (.bipush 6, 2) := by decide +kernel
theorem dX7_guess_42 : decode cX7_guess 42 = .ok (.iload_n 1, 1) := by decide +kernel
theorem dX7_guess_43 : decode cX7_guess 43 = .ok (.imul, 1) := by decide +kernel
theorem dX7_guess_44 : decode cX7_guess 44 = .ok (.iload_n 2, 1) := by decide +kernel
theorem dX7_guess_45 : decode cX7_guess 45 = .ok (.iadd, 1) := by decide +kernel
theorem dX7_guess_46 : decode cX7_guess 46 = .ok (.istore_n 3, 1) := by decide +kernel
theorem dX7_guess_47 : decode cX7_guess 47 = .ok (.aload_n 0, 1) := by decide +kernel
theorem dX7_guess_48 : decode cX7_guess 48 = .ok (.getfield 62, 3) := by decide +kernel
theorem dX7_guess_51 : decode cX7_guess 51 = .ok (.iload_n 3, 1) := by decide +kernel
theorem dX7_guess_52 : decode cX7_guess 52 = .ok (.iaload, 1) := by decide +kernel
theorem dX7_guess_53 : decode cX7_guess 53 = .ok (.invokestatic 193, 3) := by decide +kernel
theorem dX7_guess_56 : decode cX7_guess 56 = .ok (.istore 4, 2) := by decide +kernel
theorem dX7_guess_58 : decode cX7_guess 58 = .ok (.iload 4, 2) := by decide +kernel
theorem dX7_guess_60 : decode cX7_guess 60 = .ok (.ifCond .lt 182, 3) := by decide +kernel
theorem dX7_guess_63 : decode cX7_guess 63 = .ok (.iload_n 2, 1) := by decide +kernel
theorem dX7_guess_64 : decode cX7_guess 64 = .ok (.ifCond .le 23, 3) := by decide +kernel
theorem dX7_guess_67 : decode cX7_guess 67 = .ok (.aload_n 0, 1) := by decide +kernel
theorem dX7_guess_68 : decode cX7_guess 68 = .ok (.getfield 62, 3) := by decide +kernel
theorem dX7_guess_71 : decode cX7_guess 71 = .ok (.iload_n 3, 1) := by decide +kernel
theorem dX7_guess_72 : decode cX7_guess 72 = .ok (.iconst 1, 1) := by decide +kernel
theorem dX7_guess_73 : decode cX7_guess 73 = .ok (.isub, 1) := by decide +kernel
theorem dX7_guess_74 : decode cX7_guess 74 = .ok (.iaload, 1) := by decide +kernel
theorem dX7_guess_75 : decode cX7_guess 75 = .ok (.invokestatic 193, 3) := by decide +kernel
theorem dX7_guess_78 : decode cX7_guess 78 = .ok (.iload 4, 2) := by decide +kernel
theorem dX7_guess_80 : decode cX7_guess 80 = .ok (.if_icmp .ne 7, 3) := by decide +kernel
