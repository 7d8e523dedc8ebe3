theorem dX7_guess_83 : decode cX7_guess 83 = .ok (.iconst 1, 1) := by decide +kernel
theorem dX7_guess_84 : decode cX7_guess 84 = .ok (.goto 4, 3) := by decide +kernel
theorem dX7_guess_87 : decode cX7_guess 87 = .ok (.iconst 0, 1) := by decide +kernel
theorem dX7_guess_88 : decode cX7_guess 88 = .ok (.istore 5, 2) := by decide +kernel
theorem dX7_guess_90 : decode cX7_guess 90 = .ok (.iload_n 1, 1) := by decide +kernel
theorem dX7_guess_91 : decode cX7_guess 91 = .ok (.ifCond .le 24, 3) := by decide +kernel
theorem dX7_guess_94 : decode cX7_guess 94 = .ok (.aload_n 0, 1) := by decide +kernel
theorem dX7_guess_95 : decode cX7_guess 95 = .ok (.getfield 62, 3) := by decide +kernel
theorem dX7_guess_98 : decode cX7_guess 98 = .ok (.iload_n 3, 1) := by decide +kernel
theorem dX7_guess_99 : decode cX7_guess 99 = .ok (.bipush 6, 2) := by decide +kernel
theorem dX7_guess_101 : decode cX7_guess 101 = .ok (.isub, 1) := by decide +kernel
theorem dX7_guess_102 : decode cX7_guess 102 = .ok (.iaload, 1) := by decide +kernel
theorem dX7_guess_103 : decode cX7_guess 103 = .ok (.invokestatic 193, 3) := by decide +kernel
theorem dX7_guess_106 : decode cX7_guess 106 = .ok (.iload 4, 2) := by decide +kernel
theorem dX7_guess_108 : decode cX7_guess 108 = .ok (.if_icmp .ne 7, 3) := by decide +kernel
theorem dX7_guess_111 : decode cX7_guess 111 = .ok (.iconst 1, 1) := by decide +kernel
theorem dX7_guess_112 : decode cX7_guess 112 = .ok (.goto 4, 3) := by decide +kernel
theorem dX7_guess_115 : decode cX7_guess 115 = .ok (.iconst 0, 1) := by decide +kernel
theorem dX7_guess_116 : decode cX7_guess 116 = .ok (.istore 6, 2) := by decide +kernel
theorem dX7_guess_118 : decode cX7_guess 118 = .ok (.iload 5, 2) := by decide +kernel
theorem dX7_guess_120 : decode cX7_guess 120 = .ok (.ifCond .eq 37, 3) := by decide +kernel
theorem dX7_guess_123 : decode cX7_guess 123 = .ok (.iload 6, 2) := by decide +kernel
theorem dX7_guess_125 : decode cX7_guess 125 = .ok (.ifCond .eq 32, 3) := by decide +kernel
theorem dX7_guess_128 : decode cX7_guess 128 = .ok (.aload_n 0, 1) := by decide +kernel
theorem dX7_guess_129 : decode cX7_guess 129 = .ok (.getfield 74, 3) := by decide +kernel
theorem dX7_guess_132 : decode cX7_guess 132 = .ok (.bipush 64, 2) := by decide +kernel
theorem dX7_guess_134 : decode cX7_guess 134 = .ok (.iload_n 3, 1) := by decide +kernel
theorem dX7_guess_135 : decode cX7_guess 135 = .ok (.iconst 1, 1) := by decide +kernel
theorem dX7_guess_136 : decode cX7_guess 136 = .ok (.isub, 1) := by decide +kernel
theorem dX7_guess_137 : decode cX7_guess 137 = .ok (.imul, 1) := by decide +kernel
theorem dX7_guess_138 : decode cX7_guess 138 = .ok (.iaload, 1) := by decide +kernel
theorem dX7_guess_139 : decode cX7_guess 139 = .ok (.aload_n 0, 1) := by decide +kernel
theorem dX7_guess_140 : decode cX7_guess 140 = .ok (.getfield 74, 3) := by decide +kernel
theorem dX7_guess_143 : decode cX7_guess 143 = .ok (.bipush 64, 2) := by decide +kernel
theorem dX7_guess_145 : decode cX7_guess 145 = .ok (.iload_n 3, 1) := by decide +kernel
theorem dX7_guess_146 : decode cX7_guess 146 = .ok (.bipush 6, 2) := by decide +kernel
theorem dX7_guess_148 : decode cX7_guess 148 = .ok (.isub, 1) := by decide +kernel
theorem dX7_guess_149 : decode cX7_guess 149 = .ok (.imul, 1) := by decide +kernel
theorem dX7_guess_150 : decode cX7_guess 150 = .ok (.iaload, 1) := by decide +kernel
theorem dX7_guess_151 : decode cX7_guess 151 = .ok (.iadd, 1) := by decide +kernel
theorem dX7_guess_152 : decode cX7_guess 152 = .ok (.iconst 2, 1) := by decide +kernel
theorem dX7_guess_153 : decode cX7_guess 153 = .ok (.idiv, 1) := by decide +kernel
theorem dX7_guess_154 : decode cX7_guess 154 = .ok (.goto 49, 3) := by decide +kernel
theorem dX7_guess_157 : decode cX7_guess 157 = .ok (.iload 5, 2) := by decide +kernel
theorem dX7_guess_159 : decode cX7_guess 159 = .ok (.ifCond .eq 17, 3) := by decide +kernel
theorem dX7_guess_162 : decode cX7_guess 162 = .ok (.aload_n 0, 1) := by decide +kernel
theorem dX7_guess_163 : decode cX7_guess 163 = .ok (.getfield 74, 3) := by decide +kernel
theorem dX7_guess_166 : decode cX7_guess 166 = .ok (.bipush 64, 2) := by decide +kernel
theorem dX7_guess_168 : decode cX7_guess 168 = .ok (.iload_n 3, 1) := by decide +kernel
theorem dX7_guess_169 : decode cX7_guess 169 = .ok (.iconst 1, 1) := by decide +kernel
theorem dX7_guess_170 : decode cX7_guess 170 = .ok (.isub, 1) := by decide +kernel
theorem dX7_guess_171 : decode cX7_guess 171 = .ok (.imul, 1) := by decide +kernel
theorem dX7_guess_172 : decode cX7_guess 172 = .ok (.iaload, 1) := by decide +kernel
theorem dX7_guess_173 : decode cX7_guess 173 = .ok (.goto 30, 3) := by decide +kernel
theorem dX7_guess_176 : decode cX7_guess 176 = .ok (.iload 6, 2) := by decide +kernel
theorem dX7_guess_178 : decode cX7_guess 178 = .ok (.ifCond .eq 18, 3) := by decide +kernel
theorem dX7_guess_181 : decode cX7_guess 181 = .ok (.aload_n 0, 1) := by decide +kernel
theorem dX7_guess_182 : decode cX7_guess 182 = .ok (.getfield 74, 3) := by decide +kernel
theorem dX7_guess_185 : decode cX7_guess 185 = .ok (.bipush 64, 2) := by decide +kernel
theorem dX7_guess_187 : decode cX7_guess 187 = .ok (.iload_n 3, 1) := by decide +kernel
theorem dX7_guess_188 : decode cX7_guess 188 = .ok (.bipush 6, 2) := by decide +kernel
theorem dX7_guess_190 : decode cX7_guess 190 = .ok (.isub, 1) := by decide +kernel
theorem dX7_guess_191 : decode cX7_guess 191 = .ok (.imul, 1) := by decide +kernel
theorem dX7_guess_192 : decode cX7_guess 192 = .ok (.iaload, 1) := by decide +kernel
theorem dX7_guess_193 : decode cX7_guess 193 = .ok (.goto 10, 3) := by decide +kernel
theorem dX7_guess_196 : decode cX7_guess 196 = .ok (.aload_n 0, 1) := by decide +kernel
theorem dX7_guess_197 : decode cX7_guess 197 = .ok (.getfield 77, 3) := by decide +kernel
theorem dX7_guess_200 : decode cX7_guess 200 = .ok (.iload 4, 2) := by decide +kernel
theorem dX7_guess_202 : decode cX7_guess 202 = .ok (.iaload, 1) := by decide +kernel
theorem dX7_guess_203 : decode cX7_guess 203 = .ok (.istore 7, 2) := by decide +kernel
theorem dX7_guess_205 : decode cX7_guess 205 = .ok (.aload_n 0, 1) := by decide +kernel
theorem dX7_guess_206 : decode cX7_guess 206 = .ok (.getfield 74, 3) := by decide +kernel
theorem dX7_guess_209 : decode cX7_guess 209 = .ok (.bipush 64, 2) := by decide +kernel
theorem dX7_guess_211 : decode cX7_guess 211 = .ok (.iload_n 3, 1) := by decide +kernel
theorem dX7_guess_212 : decode cX7_guess 212 = .ok (.imul, 1) := by decide +kernel
theorem dX7_guess_213 : decode cX7_guess 213 = .ok (.aload_n 0, 1) := by decide +kernel
theorem dX7_guess_214 : decode cX7_guess 214 = .ok (.getfield 74, 3) := by decide +kernel
theorem dX7_guess_217 : decode cX7_guess 217 = .ok (.bipush 64, 2) := by decide +kernel
theorem dX7_guess_219 : decode cX7_guess 219 = .ok (.iload_n 3, 1) := by decide +kernel
theorem dX7_guess_220 : decode cX7_guess 220 = .ok (.imul, 1) := by decide +kernel
theorem dX7_guess_221 : decode cX7_guess 221 = .ok (.iaload, 1) := by decide +kernel
theorem dX7_guess_222 : decode cX7_guess 222 = .ok (.iload 7, 2) := by decide +kernel
theorem dX7_guess_224 : decode cX7_guess 224 = .ok (.iadd, 1) := by decide +kernel
theorem dX7_guess_225 : decode cX7_guess 225 = .ok (.iastore, 1) := by decide +kernel
theorem dX7_guess_226 : decode cX7_guess 226 = .ok (.aload_n 0, 1) := by decide +kernel
theorem dX7_guess_227 : decode cX7_guess 227 = .ok (.getfield 77, 3) := by decide +kernel
theorem dX7_guess_230 : decode cX7_guess 230 = .ok (.iload 4, 2) := by decide +kernel
theorem dX7_guess_232 : decode cX7_guess 232 = .ok (.aload_n 0, 1) := by decide +kernel
theorem dX7_guess_233 : decode cX7_guess 233 = .ok (.getfield 74, 3) := by decide +kernel
theorem dX7_guess_236 : decode cX7_guess 236 = .ok (.bipush 64, 2) := by decide +kernel
theorem dX7_guess_238 : decode cX7_guess 238 = .ok (.iload_n 3, 1) := by decide +kernel
theorem dX7_guess_239 : decode cX7_guess 239 = .ok (.imul, 1) := by decide +kernel
theorem dX7_guess_240 : decode cX7_guess 240 = .ok (.iaload, 1) := by decide +kernel
theorem dX7_guess_241 : decode cX7_guess 241 = .ok (.iastore, 1) := by decide +kernel
theorem dX7_guess_242 : decode cX7_guess 242 = .ok (.iinc 2 1, 3) := by decide +kernel
theorem dX7_guess_245 : decode cX7_guess 245 = .ok (.goto (-213), 3) := by decide +kernel
theorem dX7_guess_248 : decode cX7_guess 248 = .ok (.iinc 1 1, 3) := by decide +kernel
theorem dX7_guess_251 : decode cX7_guess 251 = .ok (.goto (-229), 3) := by decide +kernel
theorem dX7_guess_254 : decode cX7_guess 254 = .ok (.return_, 1) := by decide +kernel
theorem dX7_within_0 : decode cX7_within 0 = .ok (.iload_n 0, 1) := by decide +kernel
theorem dX7_within_1 : decode cX7_within 1 = .ok (.iload_n 1, 1) := by decide +kernel
theorem dX7_within_2 : decode cX7_within 2 = .ok (.if_icmp .ge 7, 3) := by decide +kernel
theorem dX7_within_5 : decode cX7_within 5 = .ok (.iload_n 1, 1) := by decide +kernel
theorem dX7_within_6 : decode cX7_within 6 = .ok (.goto 13, 3) := by decide +kernel
theorem dX7_within_9 : decode cX7_within 9 = .ok (.iload_n 0, 1) := by decide +kernel
theorem dX7_within_10 : decode cX7_within 10 = .ok (.iload_n 2, 1) := by decide +kernel
theorem dX7_within_11 : decode cX7_within 11 = .ok (.if_icmp .le 7, 3) := by decide +kernel
theorem dX7_within_14 : decode cX7_within 14 = .ok (.iload_n 2, 1) := by decide +kernel
theorem dX7_within_15 : decode cX7_within 15 = .ok (.goto 4, 3) := by decide +kernel
theorem dX7_within_18 : decode cX7_within 18 = .ok (.iload_n 0, 1) := by decide +kernel
theorem dX7_within_19 : decode cX7_within 19 = .ok (.ireturn, 1) := by decide +kernel
theorem dX7_wave_0 : decode cX7_wave 0 = .ok (.iload_n 2, 1) := by decide +kernel
theorem dX7_wave_1 : decode cX7_wave 1 = .ok (.ifCond .ne 7, 3) := by decide +kernel
theorem dX7_wave_4 : decode cX7_wave 4 = .ok (.sipush 11585, 3) := by decide +kernel
theorem dX7_wave_7 : decode cX7_wave 7 = .ok (.ireturn, 1) := by decide +kernel
theorem dX7_wave_8 : decode cX7_wave 8 = .ok (.iconst 2, 1) := by decide +kernel
theorem dX7_wave_9 : decode cX7_wave 9 = .ok (.iload_n 1, 1) := by decide +kernel
theorem dX7_wave_10 : decode cX7_wave 10 = .ok (.imul, 1) := by decide +kernel
theorem dX7_wave_11 : decode cX7_wave 11 = .ok (.iconst 1, 1) := by decide +kernel
theorem dX7_wave_12 : decode cX7_wave 12 = .ok (.iadd, 1) := by decide +kernel
theorem dX7_wave_13 : decode cX7_wave 13 = .ok (.iload_n 2, 1) := by decide +kernel
theorem dX7_wave_14 : decode cX7_wave 14 = .ok (.imul, 1) := by decide +kernel
theorem dX7_wave_15 : decode cX7_wave 15 = .ok (.bipush 32, 2) := by decide +kernel
theorem dX7_wave_17 : decode cX7_wave 17 = .ok (.irem, 1) := by decide +kernel
theorem dX7_wave_18 : decode cX7_wave 18 = .ok (.istore_n 3, 1) := by decide +kernel
theorem dX7_wave_19 : decode cX7_wave 19 = .ok (.iload_n 3, 1) := by decide +kernel
theorem dX7_wave_20 : decode cX7_wave 20 = .ok (.bipush 8, 2) := by decide +kernel
theorem dX7_wave_22 : decode cX7_wave 22 = .ok (.if_icmp .ge 12, 3) := by decide +kernel
theorem dX7_wave_25 : decode cX7_wave 25 = .ok (.aload_n 0, 1) := by decide +kernel
theorem dX7_wave_26 : decode cX7_wave 26 = .ok (.getfield 90, 3) := by decide +kernel
theorem dX7_wave_29 : decode cX7_wave 29 = .ok (.iload_n 3, 1) := by decide +kernel
theorem dX7_wave_30 : decode cX7_wave 30 = .ok (.iaload, 1) := by decide +kernel
theorem dX7_wave_31 : decode cX7_wave 31 = .ok (.goto 50, 3) := by decide +kernel
theorem dX7_wave_34 : decode cX7_wave 34 = .ok (.iload_n 3, 1) := by decide +kernel
theorem dX7_wave_35 : decode cX7_wave 35 = .ok (.bipush 16, 2) := by decide +kernel
theorem dX7_wave_37 : decode cX7_wave 37 = .ok (.if_icmp .ge 16, 3) := by decide +kernel
theorem dX7_wave_40 : decode cX7_wave 40 = .ok (.aload_n 0, 1) := by decide +kernel
theorem dX7_wave_41 : decode cX7_wave 41 = .ok (.getfield 90, 3) := by decide +kernel
theorem dX7_wave_44 : decode cX7_wave 44 = .ok (.bipush 16, 2) := by decide +kernel
theorem dX7_wave_46 : decode cX7_wave 46 = .ok (.iload_n 3, 1) := by decide +kernel
theorem dX7_wave_47 : decode cX7_wave 47 = .ok (.isub, 1) := by decide +kernel
theorem dX7_wave_48 : decode cX7_wave 48 = .ok (.iaload, 1) := by decide +kernel
theorem dX7_wave_49 : decode cX7_wave 49 = .ok (.ineg, 1) := by decide +kernel
theorem dX7_wave_50 : decode cX7_wave 50 = .ok (.goto 31, 3) := by decide +kernel
theorem dX7_wave_53 : decode cX7_wave 53 = .ok (.iload_n 3, 1) := by decide +kernel
theorem dX7_wave_54 : decode cX7_wave 54 = .ok (.bipush 24, 2) := by decide +kernel
theorem dX7_wave_56 : decode cX7_wave 56 = .ok (.if_icmp .ge 16, 3) := by decide +kernel
theorem dX7_wave_59 : decode cX7_wave 59 = .ok (.aload_n 0, 1) := by decide +kernel
theorem dX7_wave_60 : decode cX7_wave 60 = .ok (.getfield 90, 3) := by decide +kernel
theorem dX7_wave_63 : decode cX7_wave 63 = .ok (.iload_n 3, 1) := by decide +kernel
theorem dX7_wave_64 : decode cX7_wave 64 = .ok (.bipush 16, 2) := by decide +kernel
theorem dX7_wave_66 : decode cX7_wave 66 = .ok (.isub, 1) := by decide +kernel
theorem dX7_wave_67 : decode cX7_wave 67 = .ok (.iaload, 1) := by decide +kernel
theorem dX7_wave_68 : decode cX7_wave 68 = .ok (.ineg, 1) := by decide +kernel
theorem dX7_wave_69 : decode cX7_wave 69 = .ok (.goto 12, 3) := by decide +kernel
theorem dX7_wave_72 : decode cX7_wave 72 = .ok (.aload_n 0, 1) := by decide +kernel
theorem dX7_wave_73 : decode cX7_wave 73 = .ok (.getfield 90, 3) := by decide +kernel
theorem dX7_wave_76 : decode cX7_wave 76 = .ok (.bipush 32, 2) := by decide +kernel
theorem dX7_wave_78 : decode cX7_wave 78 = .ok (.iload_n 3, 1) := by decide +kernel
theorem dX7_wave_79 : decode cX7_wave 79 = .ok (.isub, 1) := by decide +kernel
theorem dX7_wave_80 : decode cX7_wave 80 = .ok (.iaload, 1) := by decide +kernel
theorem dX7_wave_81 : decode cX7_wave 81 = .ok (.ireturn, 1) := by decide +kernel
set_option maxRecDepth 100000 in
theorem ggX7_add_X7_within : GoodIn wsX7_add wsX7_within := goodIn_r _ [13] rfl (by decide +kernel)
set_option maxRecDepth 100000 in
theorem gX7_add_X7_within : GoodIn wsX7_add (va_wsS RX7 196 yX7_within wsX7_within) := goodIn_app (goodIn_of _ (by decide +kernel)) ggX7_add_X7_within
set_option maxRecDepth 100000 in
theorem ggX7_add_X7_wave : GoodIn wsX7_add wsX7_wave := goodIn_r _ [17, 18, 19, 20, 21, 22, 23, 24, 25, 26, 27, 28, 29, 30, 31, 32, 33, 34, 35, 36, 37, 38, 39, 40, 41, 42, 43, 44, 45, 46, 47, 48, 49, 50, 51, 52, 53, 54, 55, 56, 57, 58, 59, 60] rfl (by decide +kernel)
set_option maxRecDepth 100000 in
theorem gX7_add_X7_wave : GoodIn wsX7_add (wsV RX7 206 RX7 yX7_wave wsX7_wave) := goodIn_app (goodIn_of _ (by decide +kernel)) ggX7_add_X7_wave
theorem dX7_add_0 : decode cX7_add 0 = .ok (.iconst 0, 1) := by decide +kernel
theorem dX7_add_1 : decode cX7_add 1 = .ok (.istore_n 3, 1) := by decide +kernel
theorem dX7_add_2 : decode cX7_add 2 = .ok (.iconst 0, 1) := by decide +kernel
theorem dX7_add_3 : decode cX7_add 3 = .ok (.istore 4, 2) := by decide +kernel
theorem dX7_add_5 : decode cX7_add 5 = .ok (.iload 4, 2) := by decide +kernel
theorem dX7_add_7 : decode cX7_add 7 = .ok (.bipush 15, 2) := by decide +kernel
theorem dX7_add_9 : decode cX7_add 9 = .ok (.if_icmp .ge 159, 3) := by decide +kernel
theorem dX7_add_12 : decode cX7_add 12 = .ok (.iconst 0, 1) := by decide +kernel
theorem dX7_add_13 : decode cX7_add 13 = .ok (.istore 5, 2) := by decide +kernel
theorem dX7_add_15 : decode cX7_add 15 = .ok (.iload 5, 2) := by decide +kernel
theorem dX7_add_17 : decode cX7_add 17 = .ok (.iload 4, 2) := by decide +kernel
theorem dX7_add_19 : decode cX7_add 19 = .ok (.if_icmp .gt 143, 3) := by decide +kernel
theorem dX7_add_22 : decode cX7_add 22 = .ok (.iload 4, 2) := by decide +kernel
theorem dX7_add_24 : decode cX7_add 24 = .ok (.iconst 2, 1) := by decide +kernel
theorem dX7_add_25 : decode cX7_add 25 = .ok (.irem, 1) := by decide +kernel
theorem dX7_add_26 : decode cX7_add 26 = .ok (.iconst 1, 1) := by decide +kernel
theorem dX7_add_27 : decode cX7_add 27 = .ok (.if_icmp .ne 11, 3) := by decide +kernel
theorem dX7_add_30 : decode cX7_add 30 = .ok (.iload 4, 2) := by decide +kernel
theorem dX7_add_32 : decode cX7_add 32 = .ok (.iload 5, 2) := by decide +kernel
theorem dX7_add_34 : decode cX7_add 34 = .ok (.isub, 1) := by decide +kernel
theorem dX7_add_35 : decode cX7_add 35 = .ok (.goto 5, 3) := by decide +kernel
theorem dX7_add_38 : decode cX7_add 38 = .ok (.iload 5, 2) := by decide +kernel
theorem dX7_add_40 : decode cX7_add 40 = .ok (.istore 6, 2) := by decide +kernel
theorem dX7_add_42 : decode cX7_add 42 = .ok (.iload 4, 2) := by decide +kernel
theorem dX7_add_44 : decode cX7_add 44 = .ok (.iload 6, 2) := by decide +kernel
theorem dX7_add_46 : decode cX7_add 46 = .ok (.isub, 1) := by decide +kernel
theorem dX7_add_47 : decode cX7_add 47 = .ok (.istore 7, 2) := by decide +kernel
theorem dX7_add_49 : decode cX7_add 49 = .ok (.iload 6, 2) := by decide +kernel
theorem dX7_add_51 : decode cX7_add 51 = .ok (.bipush 8, 2) := by decide +kernel
theorem dX7_add_53 : decode cX7_add 53 = .ok (.if_icmp .ge 103, 3) := by decide +kernel
theorem dX7_add_56 : decode cX7_add 56 = .ok (.iload 7, 2) := by decide +kernel
theorem dX7_add_58 : decode cX7_add 58 = .ok (.bipush 8, 2) := by decide +kernel
theorem dX7_add_60 : decode cX7_add 60 = .ok (.if_icmp .ge 96, 3) := by decide +kernel
theorem dX7_add_63 : decode cX7_add 63 = .ok (.aload_n 0, 1) := by decide +kernel
theorem dX7_add_64 : decode cX7_add 64 = .ok (.getfield 17, 3) := by decide +kernel
theorem dX7_add_67 : decode cX7_add 67 = .ok (.iload_n 3, 1) := by decide +kernel
theorem dX7_add_68 : decode cX7_add 68 = .ok (.iconst 4, 1) := by decide +kernel
theorem dX7_add_69 : decode cX7_add 69 = .ok (.idiv, 1) := by decide +kernel
theorem dX7_add_70 : decode cX7_add 70 = .ok (.iaload, 1) := by decide +kernel
theorem dX7_add_71 : decode cX7_add 71 = .ok (.aload_n 0, 1) := by decide +kernel
theorem dX7_add_72 : decode cX7_add 72 = .ok (.getfield 13, 3) := by decide +kernel
theorem dX7_add_75 : decode cX7_add 75 = .ok (.iload_n 2, 1) := by decide +kernel
theorem dX7_add_76 : decode cX7_add 76 = .ok (.iaload, 1) := by decide +kernel
theorem dX7_add_77 : decode cX7_add 77 = .ok (.imul, 1) := by decide +kernel
theorem dX7_add_78 : decode cX7_add 78 = .ok (.bipush 100, 2) := by decide +kernel
theorem dX7_add_80 : decode cX7_add 80 = .ok (.idiv, 1) := by decide +kernel
theorem dX7_add_81 : decode cX7_add 81 = .ok (.iconst 2, 1) := by decide +kernel
theorem dX7_add_82 : decode cX7_add 82 = .ok (.sipush 4096, 3) := by decide +kernel
theorem dX7_add_85 : decode cX7_add 85 = .ok (.invokestatic 196, 3) := by decide +kernel
theorem dX7_add_88 : decode cX7_add 88 = .ok (.istore 8, 2) := by decide +kernel
theorem dX7_add_90 : decode cX7_add 90 = .ok (.aload_n 0, 1) := by decide +kernel
theorem dX7_add_91 : decode cX7_add 91 = .ok (.getfield 74, 3) := by decide +kernel
theorem dX7_add_94 : decode cX7_add 94 = .ok (.bipush 64, 2) := by decide +kernel
theorem dX7_add_96 : decode cX7_add 96 = .ok (.iload_n 1, 1) := by decide +kernel
theorem dX7_add_97 : decode cX7_add 97 = .ok (.imul, 1) := by decide +kernel
theorem dX7_add_98 : decode cX7_add 98 = .ok (.iload_n 3, 1) := by decide +kernel
theorem dX7_add_99 : decode cX7_add 99 = .ok (.iadd, 1) := by decide +kernel
theorem dX7_add_100 : decode cX7_add 100 = .ok (.iaload, 1) := by decide +kernel
theorem dX7_add_101 : decode cX7_add 101 = .ok (.i2l, 1) := by decide +kernel
theorem dX7_add_102 : decode cX7_add 102 = .ok (.iload 8, 2) := by decide +kernel
theorem dX7_add_104 : decode cX7_add 104 = .ok (.i2l, 1) := by decide +kernel
theorem dX7_add_105 : decode cX7_add 105 = .ok (.lmul, 1) := by decide +kernel
theorem dX7_add_106 : decode cX7_add 106 = .ok (.lstore 9, 2) := by decide +kernel
theorem dX7_add_108 : decode cX7_add 108 = .ok (.aload_n 0, 1) := by decide +kernel
theorem dX7_add_109 : decode cX7_add 109 = .ok (.getfield 80, 3) := by decide +kernel
theorem dX7_add_112 : decode cX7_add 112 = .ok (.bipush 8, 2) := by decide +kernel
theorem dX7_add_114 : decode cX7_add 114 = .ok (.iload 7, 2) := by decide +kernel
theorem dX7_add_116 : decode cX7_add 116 = .ok (.imul, 1) := by decide +kernel
theorem dX7_add_117 : decode cX7_add 117 = .ok (.iload 6, 2) := by decide +kernel
theorem dX7_add_119 : decode cX7_add 119 = .ok (.iadd, 1) := by decide +kernel
theorem dX7_add_120 : decode cX7_add 120 = .ok (.lload 9, 2) := by decide +kernel
theorem dX7_add_122 : decode cX7_add 122 = .ok (.ldc2_w 200, 3) := by decide +kernel
theorem dX7_add_125 : decode cX7_add 125 = .ok (.lcmp, 1) := by decide +kernel
theorem dX7_add_126 : decode cX7_add 126 = .ok (.ifCond .ge 9, 3) := by decide +kernel
theorem dX7_add_129 : decode cX7_add 129 = .ok (.ldc2_w 200, 3) := by decide +kernel
theorem dX7_add_132 : decode cX7_add 132 = .ok (.goto 20, 3) := by decide +kernel
theorem dX7_add_135 : decode cX7_add 135 = .ok (.lload 9, 2) := by decide +kernel
theorem dX7_add_137 : decode cX7_add 137 = .ok (.ldc2_w 202, 3) := by decide +kernel
theorem dX7_add_140 : decode cX7_add 140 = .ok (.lcmp, 1) := by decide +kernel
theorem dX7_add_141 : decode cX7_add 141 = .ok (.ifCond .le 9, 3) := by decide +kernel
theorem dX7_add_144 : decode cX7_add 144 = .ok (.ldc2_w 202, 3) := by decide +kernel
theorem dX7_add_147 : decode cX7_add 147 = .ok (.goto 5, 3) := by decide +kernel
theorem dX7_add_150 : decode cX7_add 150 = .ok (.lload 9, 2) := by decide +kernel
theorem dX7_add_152 : decode cX7_add 152 = .ok (.lastore, 1) := by decide +kernel
theorem dX7_add_153 : decode cX7_add 153 = .ok (.iinc 3 1, 3) := by decide +kernel
theorem dX7_add_156 : decode cX7_add 156 = .ok (.iinc 5 1, 3) := by decide +kernel
theorem dX7_add_159 : decode cX7_add 159 = .ok (.goto (-144), 3) := by decide +kernel
theorem dX7_add_162 : decode cX7_add 162 = .ok (.iinc 4 1, 3) := by decide +kernel
theorem dX7_add_165 : decode cX7_add 165 = .ok (.goto (-160), 3) := by decide +kernel
theorem dX7_add_168 : decode cX7_add 168 = .ok (.iconst 0, 1) := by decide +kernel
theorem dX7_add_169 : decode cX7_add 169 = .ok (.istore 4, 2) := by decide +kernel
theorem dX7_add_171 : decode cX7_add 171 = .ok (.iload 4, 2) := by decide +kernel
theorem dX7_add_173 : decode cX7_add 173 = .ok (.bipush 8, 2) := by decide +kernel
theorem dX7_add_175 : decode cX7_add 175 = .ok (.if_icmp .ge 92, 3) := by decide +kernel
theorem dX7_add_178 : decode cX7_add 178 = .ok (.iconst 0, 1) := by decide +kernel
theorem dX7_add_179 : decode cX7_add 179 = .ok (.istore 5, 2) := by decide +kernel
theorem dX7_add_181 : decode cX7_add 181 = .ok (.iload 5, 2) := by decide +kernel
theorem dX7_add_183 : decode cX7_add 183 = .ok (.bipush 8, 2) := by decide +kernel
theorem dX7_add_185 : decode cX7_add 185 = .ok (.if_icmp .ge 76, 3) := by decide +kernel
theorem dX7_add_188 : decode cX7_add 188 = .ok (.ldc2_w 204, 3) := by decide +kernel
theorem dX7_add_191 : decode cX7_add 191 = .ok (.lstore 6, 2) := by decide +kernel
theorem dX7_add_193 : decode cX7_add 193 = .ok (.iconst 0, 1) := by decide +kernel
theorem dX7_add_194 : decode cX7_add 194 = .ok (.istore 8, 2) := by decide +kernel
theorem dX7_add_196 : decode cX7_add 196 = .ok (.iload 8, 2) := by decide +kernel
theorem dX7_add_198 : decode cX7_add 198 = .ok (.bipush 8, 2) := by decide +kernel
theorem dX7_add_200 : decode cX7_add 200 = .ok (.if_icmp .ge 37, 3) := by decide +kernel
theorem dX7_add_203 : decode cX7_add 203 = .ok (.lload 6, 2) := by decide +kernel
theorem dX7_add_205 : decode cX7_add 205 = .ok (.aload_n 0, 1) := by decide +kernel
theorem dX7_add_206 : decode cX7_add 206 = .ok (.iload 5, 2) := by decide +kernel
theorem dX7_add_208 : decode cX7_add 208 = .ok (.iload 8, 2) := by decide +kernel
theorem dX7_add_210 : decode cX7_add 210 = .ok (.invokevirtual 206, 3) := by decide +kernel
theorem dX7_add_213 : decode cX7_add 213 = .ok (.i2l, 1) := by decide +kernel
theorem dX7_add_214 : decode cX7_add 214 = .ok (.aload_n 0, 1) := by decide +kernel
theorem dX7_add_215 : decode cX7_add 215 = .ok (.getfield 80, 3) := by decide +kernel
theorem dX7_add_218 : decode cX7_add 218 = .ok (.bipush 8, 2) := by decide +kernel
theorem dX7_add_220 : decode cX7_add 220 = .ok (.iload 4, 2) := by decide +kernel
theorem dX7_add_222 : decode cX7_add 222 = .ok (.imul, 1) := by decide +kernel
theorem dX7_add_223 : decode cX7_add 223 = .ok (.iload 8, 2) := by decide +kernel
theorem dX7_add_225 : decode cX7_add 225 = .ok (.iadd, 1) := by decide +kernel
theorem dX7_add_226 : decode cX7_add 226 = .ok (.laload, 1) := by decide +kernel
theorem dX7_add_227 : decode cX7_add 227 = .ok (.lmul, 1) := by decide +kernel
theorem dX7_add_228 : decode cX7_add 228 = .ok (.ladd, 1) := by decide +kernel
theorem dX7_add_229 : decode cX7_add 229 = .ok (.lstore 6, 2) := by decide +kernel
theorem dX7_add_231 : decode cX7_add 231 = .ok (.iinc 8 1, 3) := by decide +kernel
theorem dX7_add_234 : decode cX7_add 234 = .ok (.goto (-38), 3) := by decide +kernel
theorem dX7_add_237 : decode cX7_add 237 = .ok (.aload_n 0, 1) := by decide +kernel
theorem dX7_add_238 : decode cX7_add 238 = .ok (.getfield 84, 3) := by decide +kernel
theorem dX7_add_241 : decode cX7_add 241 = .ok (.bipush 8, 2) := by decide +kernel
theorem dX7_add_243 : decode cX7_add 243 = .ok (.iload 4, 2) := by decide +kernel
theorem dX7_add_245 : decode cX7_add 245 = .ok (.imul, 1) := by decide +kernel
theorem dX7_add_246 : decode cX7_add 246 = .ok (.iload 5, 2) := by decide +kernel
theorem dX7_add_248 : decode cX7_add 248 = .ok (.iadd, 1) := by decide +kernel
theorem dX7_add_249 : decode cX7_add 249 = .ok (.lload 6, 2) := by decide +kernel
theorem dX7_add_251 : decode cX7_add 251 = .ok (.bipush 15, 2) := by decide +kernel
theorem dX7_add_253 : decode cX7_add 253 = .ok (.lshr, 1) := by decide +kernel
theorem dX7_add_254 : decode cX7_add 254 = .ok (.lastore, 1) := by decide +kernel
theorem dX7_add_255 : decode cX7_add 255 = .ok (.iinc 5 1, 3) := by decide +kernel
theorem dX7_add_258 : decode cX7_add 258 = .ok (.goto (-77), 3) := by decide +kernel
theorem dX7_add_261 : decode cX7_add 261 = .ok (.iinc 4 1, 3) := by decide +kernel
theorem dX7_add_264 : decode cX7_add 264 = .ok (.goto (-93), 3) := by decide +kernel
theorem dX7_add_267 : decode cX7_add 267 = .ok (.iconst 0, 1) := by decide +kernel
theorem dX7_add_268 : decode cX7_add 268 = .ok (.istore 4, 2) := by decide +kernel
theorem dX7_add_270 : decode cX7_add 270 = .ok (.iload 4, 2) := by decide +kernel
theorem dX7_add_272 : decode cX7_add 272 = .ok (.bipush 8, 2) := by decide +kernel
theorem dX7_add_274 : decode cX7_add 274 = .ok (.if_icmp .ge 93, 3) := by decide +kernel
theorem dX7_add_277 : decode cX7_add 277 = .ok (.iconst 0, 1) := by decide +kernel
theorem dX7_add_278 : decode cX7_add 278 = .ok (.istore 5, 2) := by decide +kernel
theorem dX7_add_280 : decode cX7_add 280 = .ok (.iload 5, 2) := by decide +kernel
theorem dX7_add_282 : decode cX7_add 282 = .ok (.bipush 8, 2) := by decide +kernel
theorem dX7_add_284 : decode cX7_add 284 = .ok (.if_icmp .ge 77, 3) := by decide +kernel
theorem dX7_add_287 : decode cX7_add 287 = .ok (.ldc2_w 204, 3) := by decide +kernel
theorem dX7_add_290 : decode cX7_add 290 = .ok (.lstore 6, 2) := by decide +kernel
theorem dX7_add_292 : decode cX7_add 292 = .ok (.iconst 0, 1) := by decide +kernel
theorem dX7_add_293 : decode cX7_add 293 = .ok (.istore 8, 2) := by decide +kernel
theorem dX7_add_295 : decode cX7_add 295 = .ok (.iload 8, 2) := by decide +kernel
theorem dX7_add_297 : decode cX7_add 297 = .ok (.bipush 8, 2) := by decide +kernel
theorem dX7_add_299 : decode cX7_add 299 = .ok (.if_icmp .ge 37, 3) := by decide +kernel
theorem dX7_add_302 : decode cX7_add 302 = .ok (.lload 6, 2) := by decide +kernel
theorem dX7_add_304 : decode cX7_add 304 = .ok (.aload_n 0, 1) := by decide +kernel
theorem dX7_add_305 : decode cX7_add 305 = .ok (.iload 5, 2) := by decide +kernel
theorem dX7_add_307 : decode cX7_add 307 = .ok (.iload 8, 2) := by decide +kernel
theorem dX7_add_309 : decode cX7_add 309 = .ok (.invokevirtual 206, 3) := by decide +kernel
theorem dX7_add_312 : decode cX7_add 312 = .ok (.i2l, 1) := by decide +kernel
theorem dX7_add_313 : decode cX7_add 313 = .ok (.aload_n 0, 1) := by decide +kernel
theorem dX7_add_314 : decode cX7_add 314 = .ok (.getfield 84, 3) := by decide +kernel
theorem dX7_add_317 : decode cX7_add 317 = .ok (.bipush 8, 2) := by decide +kernel
theorem dX7_add_319 : decode cX7_add 319 = .ok (.iload 8, 2) := by decide +kernel
theorem dX7_add_321 : decode cX7_add 321 = .ok (.imul, 1) := by decide +kernel
theorem dX7_add_322 : decode cX7_add 322 = .ok (.iload 4, 2) := by decide +kernel
theorem dX7_add_324 : decode cX7_add 324 = .ok (.iadd, 1) := by decide +kernel
theorem dX7_add_325 : decode cX7_add 325 = .ok (.laload, 1) := by decide +kernel
theorem dX7_add_326 : decode cX7_add 326 = .ok (.lmul, 1) := by decide +kernel
theorem dX7_add_327 : decode cX7_add 327 = .ok (.ladd, 1) := by decide +kernel
theorem dX7_add_328 : decode cX7_add 328 = .ok (.lstore 6, 2) := by decide +kernel
theorem dX7_add_330 : decode cX7_add 330 = .ok (.iinc 8 1, 3) := by decide +kernel
theorem dX7_add_333 : decode cX7_add 333 = .ok (.goto (-38), 3) := by decide +kernel
theorem dX7_add_336 : decode cX7_add 336 = .ok (.aload_n 0, 1) := by decide +kernel
theorem dX7_add_337 : decode cX7_add 337 = .ok (.getfield 87, 3) := by decide +kernel
theorem dX7_add_340 : decode cX7_add 340 = .ok (.bipush 8, 2) := by decide +kernel
theorem dX7_add_342 : decode cX7_add 342 = .ok (.iload 5, 2) := by decide +kernel
theorem dX7_add_344 : decode cX7_add 344 = .ok (.imul, 1) := by decide +kernel
theorem dX7_add_345 : decode cX7_add 345 = .ok (.iload 4, 2) := by decide +kernel
theorem dX7_add_347 : decode cX7_add 347 = .ok (.iadd, 1) := by decide +kernel
theorem dX7_add_348 : decode cX7_add 348 = .ok (.lload 6, 2) := by decide +kernel
theorem dX7_add_350 : decode cX7_add 350 = .ok (.bipush 15, 2) := by decide +kernel
theorem dX7_add_352 : decode cX7_add 352 = .ok (.lshr, 1) := by decide +kernel
theorem dX7_add_353 : decode cX7_add 353 = .ok (.l2i, 1) := by decide +kernel
theorem dX7_add_354 : decode cX7_add 354 = .ok (.iastore, 1) := by decide +kernel
theorem dX7_add_355 : decode cX7_add 355 = .ok (.iinc 5 1, 3) := by decide +kernel
theorem dX7_add_358 : decode cX7_add 358 = .ok (.goto (-78), 3) := by decide +kernel
theorem dX7_add_361 : decode cX7_add 361 = .ok (.iinc 4 1, 3) := by decide +kernel
theorem dX7_add_364 : decode cX7_add 364 = .ok (.goto (-94), 3) := by decide +kernel
theorem dX7_add_367 : decode cX7_add 367 = .ok (.return_, 1) := by decide +kernel
set_option maxRecDepth 100000 in
theorem ggX7_before_X7_within : GoodIn wsX7_before wsX7_within := goodIn_r _ [7] rfl (by decide +kernel)
set_option maxRecDepth 100000 in
theorem gX7_before_X7_within : GoodIn wsX7_before (va_wsS RX7 196 yX7_within wsX7_within) := goodIn_app (goodIn_of _ (by decide +kernel)) ggX7_before_X7_within
theorem dX7_before_0 : decode cX7_before 0 = .ok (.aload_n 0, 1) := by decide +kernel
theorem dX7_before_1 : decode cX7_before 1 = .ok (.getfield 38, 3) := by decide +kernel
theorem dX7_before_4 : decode cX7_before 4 = .ok (.bipush 48, 2) := by decide +kernel
theorem dX7_before_6 : decode cX7_before 6 = .ok (.iload_n 2, 1) := by decide +kernel
theorem dX7_before_7 : decode cX7_before 7 = .ok (.iconst 0, 1) := by decide +kernel
theorem dX7_before_8 : decode cX7_before 8 = .ok (.bipush 8, 2) := by decide +kernel
theorem dX7_before_10 : decode cX7_before 10 = .ok (.aload_n 0, 1) := by decide +kernel
theorem dX7_before_11 : decode cX7_before 11 = .ok (.getfield 140, 3) := by decide +kernel
theorem dX7_before_14 : decode cX7_before 14 = .ok (.imul, 1) := by decide +kernel
theorem dX7_before_15 : decode cX7_before 15 = .ok (.iconst 1, 1) := by decide +kernel
theorem dX7_before_16 : decode cX7_before 16 = .ok (.isub, 1) := by decide +kernel
theorem dX7_before_17 : decode cX7_before 17 = .ok (.invokestatic 196, 3) := by decide +kernel
theorem dX7_before_20 : decode cX7_before 20 = .ok (.imul, 1) := by decide +kernel
theorem dX7_before_21 : decode cX7_before 21 = .ok (.iload_n 1, 1) := by decide +kernel
theorem dX7_before_22 : decode cX7_before 22 = .ok (.iconst 0, 1) := by decide +kernel
theorem dX7_before_23 : decode cX7_before 23 = .ok (.bipush 8, 2) := by decide +kernel
theorem dX7_before_25 : decode cX7_before 25 = .ok (.aload_n 0, 1) := by decide +kernel
theorem dX7_before_26 : decode cX7_before 26 = .ok (.getfield 137, 3) := by decide +kernel
theorem dX7_before_29 : decode cX7_before 29 = .ok (.imul, 1) := by decide +kernel
theorem dX7_before_30 : decode cX7_before 30 = .ok (.iconst 1, 1) := by decide +kernel
theorem dX7_before_31 : decode cX7_before 31 = .ok (.isub, 1) := by decide +kernel
theorem dX7_before_32 : decode cX7_before 32 = .ok (.invokestatic 196, 3) := by decide +kernel
theorem dX7_before_35 : decode cX7_before 35 = .ok (.iadd, 1) := by decide +kernel
theorem dX7_before_36 : decode cX7_before 36 = .ok (.iaload, 1) := by decide +kernel
theorem dX7_before_37 : decode cX7_before 37 = .ok (.ireturn, 1) := by decide +kernel
set_option maxRecDepth 100000 in
theorem ggX7_base_X7_before : GoodIn wsX7_base wsX7_before := goodIn_r _ [9, 10, 11, 12, 13, 14, 8, 15, 16, 17, 18, 19, 20, 21, 22, 23, 24, 25, 26, 27, 28, 29, 30, 31, 32, 33, 34, 35, 36, 37, 38, 39, 40, 41, 42, 43, 44, 45, 46, 47, 48, 49, 50, 51, 52, 53, 54, 55, 56, 57] rfl (by decide +kernel)
set_option maxRecDepth 100000 in
theorem gX7_base_X7_before : GoodIn wsX7_base (wsV RX7 210 RX7 yX7_before wsX7_before) := goodIn_app (goodIn_of _ (by decide +kernel)) ggX7_base_X7_before
theorem dX7_base_0 : decode cX7_base 0 = .ok (.aload_n 0, 1) := by decide +kernel
theorem dX7_base_1 : decode cX7_base 1 = .ok (.getfield 62, 3) := by decide +kernel
theorem dX7_base_4 : decode cX7_base 4 = .ok (.iload_n 1, 1) := by decide +kernel
theorem dX7_base_5 : decode cX7_base 5 = .ok (.iaload, 1) := by decide +kernel
theorem dX7_base_6 : decode cX7_base 6 = .ok (.iconst 2, 1) := by decide +kernel
theorem dX7_base_7 : decode cX7_base 7 = .ok (.if_icmp .ne 7, 3) := by decide +kernel
theorem dX7_base_10 : decode cX7_base 10 = .ok (.sipush 128, 3) := by decide +kernel
theorem dX7_base_13 : decode cX7_base 13 = .ok (.ireturn, 1) := by decide +kernel
theorem dX7_base_14 : decode cX7_base 14 = .ok (.aload_n 0, 1) := by decide +kernel
theorem dX7_base_15 : decode cX7_base 15 = .ok (.getfield 62, 3) := by decide +kernel
theorem dX7_base_18 : decode cX7_base 18 = .ok (.iload_n 1, 1) := by decide +kernel
theorem dX7_base_19 : decode cX7_base 19 = .ok (.iaload, 1) := by decide +kernel
theorem dX7_base_20 : decode cX7_base 20 = .ok (.iconst 4, 1) := by decide +kernel
theorem dX7_base_21 : decode cX7_base 21 = .ok (.if_icmp .ne 15, 3) := by decide +kernel
theorem dX7_base_24 : decode cX7_base 24 = .ok (.aload_n 0, 1) := by decide +kernel
theorem dX7_base_25 : decode cX7_base 25 = .ok (.getfield 41, 3) := by decide +kernel
theorem dX7_base_28 : decode cX7_base 28 = .ok (.bipush 48, 2) := by decide +kernel
theorem dX7_base_30 : decode cX7_base 30 = .ok (.iload_n 3, 1) := by decide +kernel
theorem dX7_base_31 : decode cX7_base 31 = .ok (.imul, 1) := by decide +kernel
theorem dX7_base_32 : decode cX7_base 32 = .ok (.iload_n 2, 1) := by decide +kernel
theorem dX7_base_33 : decode cX7_base 33 = .ok (.iadd, 1) := by decide +kernel
theorem dX7_base_34 : decode cX7_base 34 = .ok (.iaload, 1) := by decide +kernel
theorem dX7_base_35 : decode cX7_base 35 = .ok (.ireturn, 1) := by decide +kernel
theorem dX7_base_36 : decode cX7_base 36 = .ok (.aload_n 0, 1) := by decide +kernel
theorem dX7_base_37 : decode cX7_base 37 = .ok (.getfield 65, 3) := by decide +kernel
theorem dX7_base_40 : decode cX7_base 40 = .ok (.iload_n 1, 1) := by decide +kernel
theorem dX7_base_41 : decode cX7_base 41 = .ok (.iaload, 1) := by decide +kernel
theorem dX7_base_42 : decode cX7_base 42 = .ok (.istore 4, 2) := by decide +kernel
theorem dX7_base_44 : decode cX7_base 44 = .ok (.aload_n 0, 1) := by decide +kernel
theorem dX7_base_45 : decode cX7_base 45 = .ok (.getfield 68, 3) := by decide +kernel
theorem dX7_base_48 : decode cX7_base 48 = .ok (.iload_n 1, 1) := by decide +kernel
theorem dX7_base_49 : decode cX7_base 49 = .ok (.iaload, 1) := by decide +kernel
theorem dX7_base_50 : decode cX7_base 50 = .ok (.istore 5, 2) := by decide +kernel
theorem dX7_base_52 : decode cX7_base 52 = .ok (.aload_n 0, 1) := by decide +kernel
theorem dX7_base_53 : decode cX7_base 53 = .ok (.iload_n 2, 1) := by decide +kernel
theorem dX7_base_54 : decode cX7_base 54 = .ok (.iload 4, 2) := by decide +kernel
theorem dX7_base_56 : decode cX7_base 56 = .ok (.iconst 1, 1) := by decide +kernel
theorem dX7_base_57 : decode cX7_base 57 = .ok (.ishr, 1) := by decide +kernel
theorem dX7_base_58 : decode cX7_base 58 = .ok (.iadd, 1) := by decide +kernel
theorem dX7_base_59 : decode cX7_base 59 = .ok (.iload_n 3, 1) := by decide +kernel
theorem dX7_base_60 : decode cX7_base 60 = .ok (.iload 5, 2) := by decide +kernel
theorem dX7_base_62 : decode cX7_base 62 = .ok (.iconst 1, 1) := by decide +kernel
theorem dX7_base_63 : decode cX7_base 63 = .ok (.ishr, 1) := by decide +kernel
theorem dX7_base_64 : decode cX7_base 64 = .ok (.iadd, 1) := by decide +kernel
theorem dX7_base_65 : decode cX7_base 65 = .ok (.invokevirtual 210, 3) := by decide +kernel
theorem dX7_base_68 : decode cX7_base 68 = .ok (.aload_n 0, 1) := by decide +kernel
theorem dX7_base_69 : decode cX7_base 69 = .ok (.iload_n 2, 1) := by decide +kernel
theorem dX7_base_70 : decode cX7_base 70 = .ok (.iload 4, 2) := by decide +kernel
theorem dX7_base_72 : decode cX7_base 72 = .ok (.iconst 1, 1) := by decide +kernel
theorem dX7_base_73 : decode cX7_base 73 = .ok (.iadd, 1) := by decide +kernel
theorem dX7_base_74 : decode cX7_base 74 = .ok (.iconst 1, 1) := by decide +kernel
theorem dX7_base_75 : decode cX7_base 75 = .ok (.ishr, 1) := by decide +kernel
theorem dX7_base_76 : decode cX7_base 76 = .ok (.iadd, 1) := by decide +kernel
theorem dX7_base_77 : decode cX7_base 77 = .ok (.iload_n 3, 1) := by decide +kernel
theorem dX7_base_78 : decode cX7_base 78 = .ok (.iload 5, 2) := by decide +kernel
theorem dX7_base_80 : decode cX7_base 80 = .ok (.iconst 1, 1) := by decide +kernel
theorem dX7_base_81 : decode cX7_base 81 = .ok (.iadd, 1) := by decide +kernel
theorem dX7_base_82 : decode cX7_base 82 = .ok (.iconst 1, 1) := by decide +kernel
theorem dX7_base_83 : decode cX7_base 83 = .ok (.ishr, 1) := by decide +kernel
theorem dX7_base_84 : decode cX7_base 84 = .ok (.iadd, 1) := by decide +kernel
theorem dX7_base_85 : decode cX7_base 85 = .ok (.invokevirtual 210, 3) := by decide +kernel
theorem dX7_base_88 : decode cX7_base 88 = .ok (.iadd, 1) := by decide +kernel
theorem dX7_base_89 : decode cX7_base 89 = .ok (.iconst 2, 1) := by decide +kernel
theorem dX7_base_90 : decode cX7_base 90 = .ok (.idiv, 1) := by decide +kernel
theorem dX7_base_91 : decode cX7_base 91 = .ok (.ireturn, 1) := by decide +kernel
set_option maxRecDepth 100000 in
theorem ggX7_paint_X7_add : GoodIn wsX7_paint wsX7_add := goodIn_r _ [11, 12, 13, 14, 15, 16, 17, 18, 19, 6, 20, 21, 10, 22, 23, 24, 25, 26, 27, 41, 42, 43, 44, 45, 46, 47, 48, 49, 50, 51, 52, 53, 54, 55, 56, 57, 58, 59, 60, 61, 62, 63, 64, 65, 66, 67, 68, 69, 70, 71, 72, 73, 74, 75, 76, 77, 78, 79, 80, 81, 82] rfl (by decide +kernel)
set_option maxRecDepth 100000 in
theorem gX7_paint_X7_add : GoodIn wsX7_paint (wsV RX7 213 RX7 yX7_add wsX7_add) := goodIn_app (goodIn_of _ (by decide +kernel)) ggX7_paint_X7_add
set_option maxRecDepth 100000 in
theorem ggX7_paint_X7_base : GoodIn wsX7_paint wsX7_base := goodIn_r _ [31, 5, 32, 33, 34, 35, 36, 37, 10, 38, 2, 39, 40, 20, 21, 22, 41, 42, 43, 44, 45, 46, 47, 48, 49, 50, 51, 52, 53, 54, 55, 56, 57, 58, 59, 60, 61, 62, 63, 64, 65, 66, 67, 68, 69, 70, 71, 72, 73, 74, 75, 76, 77, 78, 79, 80, 81, 82] rfl (by decide +kernel)
set_option maxRecDepth 100000 in
theorem gX7_paint_X7_base : GoodIn wsX7_paint (wsV RX7 216 RX7 yX7_base wsX7_base) := goodIn_app (goodIn_of _ (by decide +kernel)) ggX7_paint_X7_base
set_option maxRecDepth 100000 in
theorem ggX7_paint_X7_within : GoodIn wsX7_paint wsX7_within := goodIn_r _ [22] rfl (by decide +kernel)
set_option maxRecDepth 100000 in
theorem gX7_paint_X7_within : GoodIn wsX7_paint (va_wsS RX7 196 yX7_within wsX7_within) := goodIn_app (goodIn_of _ (by decide +kernel)) ggX7_paint_X7_within
theorem dX7_paint_0 : decode cX7_paint 0 = .ok (.iconst 0, 1) := by decide +kernel
theorem dX7_paint_1 : decode cX7_paint 1 = .ok (.istore_n 2, 1) := by decide +kernel
theorem dX7_paint_2 : decode cX7_paint 2 = .ok (.iload_n 2, 1) := by decide +kernel
theorem dX7_paint_3 : decode cX7_paint 3 = .ok (.sipush 2304, 3) := by decide +kernel
theorem dX7_paint_6 : decode cX7_paint 6 = .ok (.if_icmp .ge 21, 3) := by decide +kernel
theorem dX7_paint_9 : decode cX7_paint 9 = .ok (.aload_n 0, 1) := by decide +kernel
theorem dX7_paint_10 : decode cX7_paint 10 = .ok (.getfield 44, 3) := by decide +kernel
theorem dX7_paint_13 : decode cX7_paint 13 = .ok (.iload_n 2, 1) := by decide +kernel
theorem dX7_paint_14 : decode cX7_paint 14 = .ok (.aload_n 0, 1) := by decide +kernel
theorem dX7_paint_15 : decode cX7_paint 15 = .ok (.getfield 38, 3) := by decide +kernel
theorem dX7_paint_18 : decode cX7_paint 18 = .ok (.iload_n 2, 1) := by decide +kernel
theorem dX7_paint_19 : decode cX7_paint 19 = .ok (.iaload, 1) := by decide +kernel
theorem dX7_paint_20 : decode cX7_paint 20 = .ok (.iastore, 1) := by decide +kernel
theorem dX7_paint_21 : decode cX7_paint 21 = .ok (.iinc 2 1, 3) := by decide +kernel
theorem dX7_paint_24 : decode cX7_paint 24 = .ok (.goto (-22), 3) := by decide +kernel
theorem dX7_paint_27 : decode cX7_paint 27 = .ok (.iconst 0, 1) := by decide +kernel
theorem dX7_paint_28 : decode cX7_paint 28 = .ok (.istore_n 2, 1) := by decide +kernel
theorem dX7_paint_29 : decode cX7_paint 29 = .ok (.iload_n 2, 1) := by decide +kernel
theorem dX7_paint_30 : decode cX7_paint 30 = .ok (.aload_n 0, 1) := by decide +kernel
theorem dX7_paint_31 : decode cX7_paint 31 = .ok (.getfield 99, 3) := by decide +kernel
theorem dX7_paint_34 : decode cX7_paint 34 = .ok (.if_icmp .ge 114, 3) := by decide +kernel
theorem dX7_paint_37 : decode cX7_paint 37 = .ok (.aload_n 0, 1) := by decide +kernel
theorem dX7_paint_38 : decode cX7_paint 38 = .ok (.getfield 47, 3) := by decide +kernel
theorem dX7_paint_41 : decode cX7_paint 41 = .ok (.iload_n 2, 1) := by decide +kernel
theorem dX7_paint_42 : decode cX7_paint 42 = .ok (.iaload, 1) := by decide +kernel
theorem dX7_paint_43 : decode cX7_paint 43 = .ok (.istore_n 3, 1) := by decide +kernel
theorem dX7_paint_44 : decode cX7_paint 44 = .ok (.aload_n 0, 1) := by decide +kernel
theorem dX7_paint_45 : decode cX7_paint 45 = .ok (.getfield 62, 3) := by decide +kernel
theorem dX7_paint_48 : decode cX7_paint 48 = .ok (.iload_n 3, 1) := by decide +kernel
theorem dX7_paint_49 : decode cX7_paint 49 = .ok (.iaload, 1) := by decide +kernel
theorem dX7_paint_50 : decode cX7_paint 50 = .ok (.ifCond .le 92, 3) := by decide +kernel
theorem dX7_paint_53 : decode cX7_paint 53 = .ok (.aload_n 0, 1) := by decide +kernel
theorem dX7_paint_54 : decode cX7_paint 54 = .ok (.iload_n 3, 1) := by decide +kernel
theorem dX7_paint_55 : decode cX7_paint 55 = .ok (.iload_n 1, 1) := by decide +kernel
theorem dX7_paint_56 : decode cX7_paint 56 = .ok (.invokevirtual 213, 3) := by decide +kernel
theorem dX7_paint_59 : decode cX7_paint 59 = .ok (.iconst 0, 1) := by decide +kernel
theorem dX7_paint_60 : decode cX7_paint 60 = .ok (.istore 4, 2) := by decide +kernel
theorem dX7_paint_62 : decode cX7_paint 62 = .ok (.iload 4, 2) := by decide +kernel
theorem dX7_paint_64 : decode cX7_paint 64 = .ok (.bipush 64, 2) := by decide +kernel
theorem dX7_paint_66 : decode cX7_paint 66 = .ok (.if_icmp .ge 76, 3) := by decide +kernel
theorem dX7_paint_69 : decode cX7_paint 69 = .ok (.bipush 8, 2) := by decide +kernel
theorem dX7_paint_71 : decode cX7_paint 71 = .ok (.iload_n 3, 1) := by decide +kernel
theorem dX7_paint_72 : decode cX7_paint 72 = .ok (.bipush 6, 2) := by decide +kernel
theorem dX7_paint_74 : decode cX7_paint 74 = .ok (.irem, 1) := by decide +kernel
theorem dX7_paint_75 : decode cX7_paint 75 = .ok (.imul, 1) := by decide +kernel
theorem dX7_paint_76 : decode cX7_paint 76 = .ok (.iload 4, 2) := by decide +kernel
theorem dX7_paint_78 : decode cX7_paint 78 = .ok (.bipush 8, 2) := by decide +kernel
theorem dX7_paint_80 : decode cX7_paint 80 = .ok (.irem, 1) := by decide +kernel
theorem dX7_paint_81 : decode cX7_paint 81 = .ok (.iadd, 1) := by decide +kernel
theorem dX7_paint_82 : decode cX7_paint 82 = .ok (.istore 5, 2) := by decide +kernel
theorem dX7_paint_84 : decode cX7_paint 84 = .ok (.bipush 8, 2) := by decide +kernel
theorem dX7_paint_86 : decode cX7_paint 86 = .ok (.iload_n 3, 1) := by decide +kernel
theorem dX7_paint_87 : decode cX7_paint 87 = .ok (.bipush 6, 2) := by decide +kernel
theorem dX7_paint_89 : decode cX7_paint 89 = .ok (.idiv, 1) := by decide +kernel
theorem dX7_paint_90 : decode cX7_paint 90 = .ok (.imul, 1) := by decide +kernel
theorem dX7_paint_91 : decode cX7_paint 91 = .ok (.iload 4, 2) := by decide +kernel
theorem dX7_paint_93 : decode cX7_paint 93 = .ok (.bipush 8, 2) := by decide +kernel
theorem dX7_paint_95 : decode cX7_paint 95 = .ok (.idiv, 1) := by decide +kernel
theorem dX7_paint_96 : decode cX7_paint 96 = .ok (.iadd, 1) := by decide +kernel
theorem dX7_paint_97 : decode cX7_paint 97 = .ok (.istore 6, 2) := by decide +kernel
theorem dX7_paint_99 : decode cX7_paint 99 = .ok (.aload_n 0, 1) := by decide +kernel
theorem dX7_paint_100 : decode cX7_paint 100 = .ok (.getfield 44, 3) := by decide +kernel
theorem dX7_paint_103 : decode cX7_paint 103 = .ok (.bipush 48, 2) := by decide +kernel
theorem dX7_paint_105 : decode cX7_paint 105 = .ok (.iload 6, 2) := by decide +kernel
theorem dX7_paint_107 : decode cX7_paint 107 = .ok (.imul, 1) := by decide +kernel
theorem dX7_paint_108 : decode cX7_paint 108 = .ok (.iload 5, 2) := by decide +kernel
theorem dX7_paint_110 : decode cX7_paint 110 = .ok (.iadd, 1) := by decide +kernel
theorem dX7_paint_111 : decode cX7_paint 111 = .ok (.aload_n 0, 1) := by decide +kernel
theorem dX7_paint_112 : decode cX7_paint 112 = .ok (.iload_n 3, 1) := by decide +kernel
theorem dX7_paint_113 : decode cX7_paint 113 = .ok (.iload 5, 2) := by decide +kernel
theorem dX7_paint_115 : decode cX7_paint 115 = .ok (.iload 6, 2) := by decide +kernel
theorem dX7_paint_117 : decode cX7_paint 117 = .ok (.invokevirtual 216, 3) := by decide +kernel
theorem dX7_paint_120 : decode cX7_paint 120 = .ok (.aload_n 0, 1) := by decide +kernel
theorem dX7_paint_121 : decode cX7_paint 121 = .ok (.getfield 87, 3) := by decide +kernel
theorem dX7_paint_124 : decode cX7_paint 124 = .ok (.iload 4, 2) := by decide +kernel
theorem dX7_paint_126 : decode cX7_paint 126 = .ok (.iaload, 1) := by decide +kernel
theorem dX7_paint_127 : decode cX7_paint 127 = .ok (.iadd, 1) := by decide +kernel
theorem dX7_paint_128 : decode cX7_paint 128 = .ok (.iconst 0, 1) := by decide +kernel
theorem dX7_paint_129 : decode cX7_paint 129 = .ok (.sipush 255, 3) := by decide +kernel
theorem dX7_paint_132 : decode cX7_paint 132 = .ok (.invokestatic 196, 3) := by decide +kernel
theorem dX7_paint_135 : decode cX7_paint 135 = .ok (.iastore, 1) := by decide +kernel
theorem dX7_paint_136 : decode cX7_paint 136 = .ok (.iinc 4 1, 3) := by decide +kernel
theorem dX7_paint_139 : decode cX7_paint 139 = .ok (.goto (-77), 3) := by decide +kernel
theorem dX7_paint_142 : decode cX7_paint 142 = .ok (.iinc 2 1, 3) := by decide +kernel
theorem dX7_paint_145 : decode cX7_paint 145 = .ok (.goto (-116), 3) := by decide +kernel
theorem dX7_paint_148 : decode cX7_paint 148 = .ok (.return_, 1) := by decide +kernel
set_option maxRecDepth 100000 in
theorem ggX7_smooth_X7_within : GoodIn wsX7_smooth wsX7_within := goodIn_r _ [6] rfl (by decide +kernel)
set_option maxRecDepth 100000 in
theorem gX7_smooth_X7_within : GoodIn wsX7_smooth (va_wsS RX7 196 yX7_within wsX7_within) := goodIn_app (goodIn_of _ (by decide +kernel)) ggX7_smooth_X7_within
theorem dX7_smooth_0 : decode cX7_smooth 0 = .ok (.iconst 0, 1) := by decide +kernel
theorem dX7_smooth_1 : decode cX7_smooth 1 = .ok (.istore 4, 2) := by decide +kernel
theorem dX7_smooth_3 : decode cX7_smooth 3 = .ok (.iload 4, 2) := by decide +kernel
theorem dX7_smooth_5 : decode cX7_smooth 5 = .ok (.bipush 8, 2) := by decide +kernel
theorem dX7_smooth_7 : decode cX7_smooth 7 = .ok (.if_icmp .ge 190, 3) := by decide +kernel
theorem dX7_smooth_10 : decode cX7_smooth 10 = .ok (.iload_n 1, 1) := by decide +kernel
theorem dX7_smooth_11 : decode cX7_smooth 11 = .ok (.iload 4, 2) := by decide +kernel
theorem dX7_smooth_13 : decode cX7_smooth 13 = .ok (.iload_n 3, 1) := by decide +kernel
theorem dX7_smooth_14 : decode cX7_smooth 14 = .ok (.imul, 1) := by decide +kernel
theorem dX7_smooth_15 : decode cX7_smooth 15 = .ok (.iadd, 1) := by decide +kernel
theorem dX7_smooth_16 : decode cX7_smooth 16 = .ok (.istore 5, 2) := by decide +kernel
theorem dX7_smooth_18 : decode cX7_smooth 18 = .ok (.aload_n 0, 1) := by decide +kernel
theorem dX7_smooth_19 : decode cX7_smooth 19 = .ok (.getfield 44, 3) := by decide +kernel
theorem dX7_smooth_22 : decode cX7_smooth 22 = .ok (.iload 5, 2) := by decide +kernel
theorem dX7_smooth_24 : decode cX7_smooth 24 = .ok (.iconst 2, 1) := by decide +kernel
theorem dX7_smooth_25 : decode cX7_smooth 25 = .ok (.iload_n 2, 1) := by decide +kernel
theorem dX7_smooth_26 : decode cX7_smooth 26 = .ok (.imul, 1) := by decide +kernel
theorem dX7_smooth_27 : decode cX7_smooth 27 = .ok (.isub, 1) := by decide +kernel
theorem dX7_smooth_28 : decode cX7_smooth 28 = .ok (.iaload, 1) := by decide +kernel
theorem dX7_smooth_29 : decode cX7_smooth 29 = .ok (.iconst 3, 1) := by decide +kernel
theorem dX7_smooth_30 : decode cX7_smooth 30 = .ok (.aload_n 0, 1) := by decide +kernel
theorem dX7_smooth_31 : decode cX7_smooth 31 = .ok (.getfield 44, 3) := by decide +kernel
theorem dX7_smooth_34 : decode cX7_smooth 34 = .ok (.iload 5, 2) := by decide +kernel
theorem dX7_smooth_36 : decode cX7_smooth 36 = .ok (.iload_n 2, 1) := by decide +kernel
theorem dX7_smooth_37 : decode cX7_smooth 37 = .ok (.isub, 1) := by decide +kernel
theorem dX7_smooth_38 : decode cX7_smooth 38 = .ok (.iaload, 1) := by decide +kernel
theorem dX7_smooth_39 : decode cX7_smooth 39 = .ok (.imul, 1) := by decide +kernel
theorem dX7_smooth_40 : decode cX7_smooth 40 = .ok (.isub, 1) := by decide +kernel
theorem dX7_smooth_41 : decode cX7_smooth 41 = .ok (.iconst 3, 1) := by decide +kernel
theorem dX7_smooth_42 : decode cX7_smooth 42 = .ok (.aload_n 0, 1) := by decide +kernel
theorem dX7_smooth_43 : decode cX7_smooth 43 = .ok (.getfield 44, 3) := by decide +kernel
theorem dX7_smooth_46 : decode cX7_smooth 46 = .ok (.iload 5, 2) := by decide +kernel
theorem dX7_smooth_48 : decode cX7_smooth 48 = .ok (.iaload, 1) := by decide +kernel
theorem dX7_smooth_49 : decode cX7_smooth 49 = .ok (.imul, 1) := by decide +kernel
theorem dX7_smooth_50 : decode cX7_smooth 50 = .ok (.iadd, 1) := by decide +kernel
theorem dX7_smooth_51 : decode cX7_smooth 51 = .ok (.aload_n 0, 1) := by decide +kernel
theorem dX7_smooth_52 : decode cX7_smooth 52 = .ok (.getfield 44, 3) := by decide +kernel
theorem dX7_smooth_55 : decode cX7_smooth 55 = .ok (.iload 5, 2) := by decide +kernel
theorem dX7_smooth_57 : decode cX7_smooth 57 = .ok (.iload_n 2, 1) := by decide +kernel
theorem dX7_smooth_58 : decode cX7_smooth 58 = .ok (.iadd, 1) := by decide +kernel
theorem dX7_smooth_59 : decode cX7_smooth 59 = .ok (.iaload, 1) := by decide +kernel
theorem dX7_smooth_60 : decode cX7_smooth 60 = .ok (.isub, 1) := by decide +kernel
theorem dX7_smooth_61 : decode cX7_smooth 61 = .ok (.iconst 4, 1) := by decide +kernel
theorem dX7_smooth_62 : decode cX7_smooth 62 = .ok (.iadd, 1) := by decide +kernel
theorem dX7_smooth_63 : decode cX7_smooth 63 = .ok (.iconst 3, 1) := by decide +kernel
theorem dX7_smooth_64 : decode cX7_smooth 64 = .ok (.ishr, 1) := by decide +kernel
theorem dX7_smooth_65 : decode cX7_smooth 65 = .ok (.istore 6, 2) := by decide +kernel
theorem dX7_smooth_67 : decode cX7_smooth 67 = .ok (.iload 6, 2) := by decide +kernel
theorem dX7_smooth_69 : decode cX7_smooth 69 = .ok (.ifCond .ge 9, 3) := by decide +kernel
theorem dX7_smooth_72 : decode cX7_smooth 72 = .ok (.iload 6, 2) := by decide +kernel
theorem dX7_smooth_74 : decode cX7_smooth 74 = .ok (.ineg, 1) := by decide +kernel
theorem dX7_smooth_75 : decode cX7_smooth 75 = .ok (.goto 5, 3) := by decide +kernel
theorem dX7_smooth_78 : decode cX7_smooth 78 = .ok (.iload 6, 2) := by decide +kernel
theorem dX7_smooth_80 : decode cX7_smooth 80 = .ok (.istore 7, 2) := by decide +kernel
theorem dX7_smooth_82 : decode cX7_smooth 82 = .ok (.iload 7, 2) := by decide +kernel
theorem dX7_smooth_84 : decode cX7_smooth 84 = .ok (.aload_n 0, 1) := by decide +kernel
theorem dX7_smooth_85 : decode cX7_smooth 85 = .ok (.getfield 143, 3) := by decide +kernel
theorem dX7_smooth_88 : decode cX7_smooth 88 = .ok (.if_icmp .ge 8, 3) := by decide +kernel
theorem dX7_smooth_91 : decode cX7_smooth 91 = .ok (.iload 6, 2) := by decide +kernel
theorem dX7_smooth_93 : decode cX7_smooth 93 = .ok (.goto 44, 3) := by decide +kernel
theorem dX7_smooth_96 : decode cX7_smooth 96 = .ok (.iload 7, 2) := by decide +kernel
theorem dX7_smooth_98 : decode cX7_smooth 98 = .ok (.iconst 2, 1) := by decide +kernel
theorem dX7_smooth_99 : decode cX7_smooth 99 = .ok (.aload_n 0, 1) := by decide +kernel
theorem dX7_smooth_100 : decode cX7_smooth 100 = .ok (.getfield 143, 3) := by decide +kernel
theorem dX7_smooth_103 : decode cX7_smooth 103 = .ok (.imul, 1) := by decide +kernel
theorem dX7_smooth_104 : decode cX7_smooth 104 = .ok (.if_icmp .ge 32, 3) := by decide +kernel
theorem dX7_smooth_107 : decode cX7_smooth 107 = .ok (.iload 6, 2) := by decide +kernel
theorem dX7_smooth_109 : decode cX7_smooth 109 = .ok (.ifCond .ge 15, 3) := by decide +kernel
theorem dX7_smooth_112 : decode cX7_smooth 112 = .ok (.iload 7, 2) := by decide +kernel
theorem dX7_smooth_114 : decode cX7_smooth 114 = .ok (.iconst 2, 1) := by decide +kernel
theorem dX7_smooth_115 : decode cX7_smooth 115 = .ok (.aload_n 0, 1) := by decide +kernel
theorem dX7_smooth_116 : decode cX7_smooth 116 = .ok (.getfield 143, 3) := by decide +kernel
theorem dX7_smooth_119 : decode cX7_smooth 119 = .ok (.imul, 1) := by decide +kernel
theorem dX7_smooth_120 : decode cX7_smooth 120 = .ok (.isub, 1) := by decide +kernel
theorem dX7_smooth_121 : decode cX7_smooth 121 = .ok (.goto 16, 3) := by decide +kernel
theorem dX7_smooth_124 : decode cX7_smooth 124 = .ok (.iconst 2, 1) := by decide +kernel
theorem dX7_smooth_125 : decode cX7_smooth 125 = .ok (.aload_n 0, 1) := by decide +kernel
theorem dX7_smooth_126 : decode cX7_smooth 126 = .ok (.getfield 143, 3) := by decide +kernel
theorem dX7_smooth_129 : decode cX7_smooth 129 = .ok (.imul, 1) := by decide +kernel
theorem dX7_smooth_130 : decode cX7_smooth 130 = .ok (.iload 7, 2) := by decide +kernel
theorem dX7_smooth_132 : decode cX7_smooth 132 = .ok (.isub, 1) := by decide +kernel
theorem dX7_smooth_133 : decode cX7_smooth 133 = .ok (.goto 4, 3) := by decide +kernel
theorem dX7_smooth_136 : decode cX7_smooth 136 = .ok (.iconst 0, 1) := by decide +kernel
theorem dX7_smooth_137 : decode cX7_smooth 137 = .ok (.istore 8, 2) := by decide +kernel
theorem dX7_smooth_139 : decode cX7_smooth 139 = .ok (.aload_n 0, 1) := by decide +kernel
theorem dX7_smooth_140 : decode cX7_smooth 140 = .ok (.getfield 44, 3) := by decide +kernel
theorem dX7_smooth_143 : decode cX7_smooth 143 = .ok (.iload 5, 2) := by decide +kernel
theorem dX7_smooth_145 : decode cX7_smooth 145 = .ok (.iload_n 2, 1) := by decide +kernel
theorem dX7_smooth_146 : decode cX7_smooth 146 = .ok (.isub, 1) := by decide +kernel
theorem dX7_smooth_147 : decode cX7_smooth 147 = .ok (.aload_n 0, 1) := by decide +kernel
theorem dX7_smooth_148 : decode cX7_smooth 148 = .ok (.getfield 44, 3) := by decide +kernel
theorem dX7_smooth_151 : decode cX7_smooth 151 = .ok (.iload 5, 2) := by decide +kernel
theorem dX7_smooth_153 : decode cX7_smooth 153 = .ok (.iload_n 2, 1) := by decide +kernel
theorem dX7_smooth_154 : decode cX7_smooth 154 = .ok (.isub, 1) := by decide +kernel
theorem dX7_smooth_155 : decode cX7_smooth 155 = .ok (.iaload, 1) := by decide +kernel
theorem dX7_smooth_156 : decode cX7_smooth 156 = .ok (.iload 8, 2) := by decide +kernel
theorem dX7_smooth_158 : decode cX7_smooth 158 = .ok (.iadd, 1) := by decide +kernel
theorem dX7_smooth_159 : decode cX7_smooth 159 = .ok (.iconst 0, 1) := by decide +kernel
theorem dX7_smooth_160 : decode cX7_smooth 160 = .ok (.sipush 255, 3) := by decide +kernel
theorem dX7_smooth_163 : decode cX7_smooth 163 = .ok (.invokestatic 196, 3) := by decide +kernel
theorem dX7_smooth_166 : decode cX7_smooth 166 = .ok (.iastore, 1) := by decide +kernel
theorem dX7_smooth_167 : decode cX7_smooth 167 = .ok (.aload_n 0, 1) := by decide +kernel
theorem dX7_smooth_168 : decode cX7_smooth 168 = .ok (.getfield 44, 3) := by decide +kernel
theorem dX7_smooth_171 : decode cX7_smooth 171 = .ok (.iload 5, 2) := by decide +kernel
theorem dX7_smooth_173 : decode cX7_smooth 173 = .ok (.aload_n 0, 1) := by decide +kernel
theorem dX7_smooth_174 : decode cX7_smooth 174 = .ok (.getfield 44, 3) := by decide +kernel
theorem dX7_smooth_177 : decode cX7_smooth 177 = .ok (.iload 5, 2) := by decide +kernel
theorem dX7_smooth_179 : decode cX7_smooth 179 = .ok (.iaload, 1) := by decide +kernel
theorem dX7_smooth_180 : decode cX7_smooth 180 = .ok (.iload 8, 2) := by decide +kernel
theorem dX7_smooth_182 : decode cX7_smooth 182 = .ok (.isub, 1) := by decide +kernel
theorem dX7_smooth_183 : decode cX7_smooth 183 = .ok (.iconst 0, 1) := by decide +kernel
theorem dX7_smooth_184 : decode cX7_smooth 184 = .ok (.sipush 255, 3) := by decide +kernel
theorem dX7_smooth_187 : decode cX7_smooth 187 = .ok (.invokestatic 196, 3) := by decide +kernel
theorem dX7_smooth_190 : decode cX7_smooth 190 = .ok (.iastore, 1) := by decide +kernel
theorem dX7_smooth_191 : decode cX7_smooth 191 = .ok (.iinc 4 1, 3) := by decide +kernel
theorem dX7_smooth_194 : decode cX7_smooth 194 = .ok (.goto (-191), 3) := by decide +kernel
theorem dX7_smooth_197 : decode cX7_smooth 197 = .ok (.return_, 1) := by decide +kernel
set_option maxRecDepth 100000 in
theorem ggX7_smoothAll_X7_smooth : GoodIn wsX7_smoothAll wsX7_smooth := goodIn_r _ [9, 10, 2, 11, 12, 8, 13, 14, 15, 16, 17, 18, 19, 20, 21, 22, 23, 24, 25, 26, 27, 28, 29, 30, 31, 32, 33, 34, 35, 36, 37, 38, 39, 40, 41, 42, 43, 44, 45, 46, 47, 48, 49, 50, 51, 52, 53, 54, 55] rfl (by decide +kernel)
set_option maxRecDepth 100000 in
theorem gX7_smoothAll_X7_smooth : GoodIn wsX7_smoothAll (wsV RX7 219 RX7 yX7_smooth wsX7_smooth) := goodIn_app (goodIn_of _ (by decide +kernel)) ggX7_smoothAll_X7_smooth
theorem dX7_smoothAll_0 : decode cX7_smoothAll 0 = .ok (.iconst 0, 1) := by decide +kernel
theorem dX7_smoothAll_1 : decode cX7_smoothAll 1 = .ok (.istore_n 1, 1) := by decide +kernel
theorem dX7_smoothAll_2 : decode cX7_smoothAll 2 = .ok (.iload_n 1, 1) := by decide +kernel
theorem dX7_smoothAll_3 : decode cX7_smoothAll 3 = .ok (.aload_n 0, 1) := by decide +kernel
theorem dX7_smoothAll_4 : decode cX7_smoothAll 4 = .ok (.getfield 140, 3) := by decide +kernel
theorem dX7_smoothAll_7 : decode cX7_smoothAll 7 = .ok (.if_icmp .ge 154, 3) := by decide +kernel
theorem dX7_smoothAll_10 : decode cX7_smoothAll 10 = .ok (.aload_n 0, 1) := by decide +kernel
theorem dX7_smoothAll_11 : decode cX7_smoothAll 11 = .ok (.getfield 143, 3) := by decide +kernel
theorem dX7_smoothAll_14 : decode cX7_smoothAll 14 = .ok (.ifCond .le 147, 3) := by decide +kernel
theorem dX7_smoothAll_17 : decode cX7_smoothAll 17 = .ok (.iconst 0, 1) := by decide +kernel
theorem dX7_smoothAll_18 : decode cX7_smoothAll 18 = .ok (.istore_n 2, 1) := by decide +kernel
theorem dX7_smoothAll_19 : decode cX7_smoothAll 19 = .ok (.iload_n 2, 1) := by decide +kernel
theorem dX7_smoothAll_20 : decode cX7_smoothAll 20 = .ok (.aload_n 0, 1) := by decide +kernel
theorem dX7_smoothAll_21 : decode cX7_smoothAll 21 = .ok (.getfield 137, 3) := by decide +kernel
theorem dX7_smoothAll_24 : decode cX7_smoothAll 24 = .ok (.if_icmp .ge 131, 3) := by decide +kernel
theorem dX7_smoothAll_27 : decode cX7_smoothAll 27 = .ok (.bipush 6, 2) := by decide +kernel
theorem dX7_smoothAll_29 : decode cX7_smoothAll 29 = .ok (.iload_n 1, 1) := by decide +kernel
theorem dX7_smoothAll_30 : decode cX7_smoothAll 30 = .ok (.imul, 1) := by decide +kernel
theorem dX7_smoothAll_31 : decode cX7_smoothAll 31 = .ok (.iload_n 2, 1) := by decide +kernel
theorem dX7_smoothAll_32 : decode cX7_smoothAll 32 = .ok (.iadd, 1) := by decide +kernel
theorem dX7_smoothAll_33 : decode cX7_smoothAll 33 = .ok (.istore_n 3, 1) := by decide +kernel
theorem dX7_smoothAll_34 : decode cX7_smoothAll 34 = .ok (.sipush 384, 3) := by decide +kernel
theorem dX7_smoothAll_37 : decode cX7_smoothAll 37 = .ok (.iload_n 1, 1) := by decide +kernel
theorem dX7_smoothAll_38 : decode cX7_smoothAll 38 = .ok (.imul, 1) := by decide +kernel
theorem dX7_smoothAll_39 : decode cX7_smoothAll 39 = .ok (.bipush 8, 2) := by decide +kernel
theorem dX7_smoothAll_41 : decode cX7_smoothAll 41 = .ok (.iload_n 2, 1) := by decide +kernel
theorem dX7_smoothAll_42 : decode cX7_smoothAll 42 = .ok (.imul, 1) := by decide +kernel
theorem dX7_smoothAll_43 : decode cX7_smoothAll 43 = .ok (.iadd, 1) := by decide +kernel
theorem dX7_smoothAll_44 : decode cX7_smoothAll 44 = .ok (.istore 4, 2) := by decide +kernel
theorem dX7_smoothAll_46 : decode cX7_smoothAll 46 = .ok (.aload_n 0, 1) := by decide +kernel
theorem dX7_smoothAll_47 : decode cX7_smoothAll 47 = .ok (.getfield 62, 3) := by decide +kernel
theorem dX7_smoothAll_50 : decode cX7_smoothAll 50 = .ok (.iload_n 3, 1) := by decide +kernel
theorem dX7_smoothAll_51 : decode cX7_smoothAll 51 = .ok (.iaload, 1) := by decide +kernel
theorem dX7_smoothAll_52 : decode cX7_smoothAll 52 = .ok (.ifCond .le 97, 3) := by decide +kernel
theorem dX7_smoothAll_55 : decode cX7_smoothAll 55 = .ok (.iload_n 2, 1) := by decide +kernel
theorem dX7_smoothAll_56 : decode cX7_smoothAll 56 = .ok (.ifCond .le 12, 3) := by decide +kernel
theorem dX7_smoothAll_59 : decode cX7_smoothAll 59 = .ok (.aload_n 0, 1) := by decide +kernel
theorem dX7_smoothAll_60 : decode cX7_smoothAll 60 = .ok (.iload 4, 2) := by decide +kernel
theorem dX7_smoothAll_62 : decode cX7_smoothAll 62 = .ok (.iconst 1, 1) := by decide +kernel
theorem dX7_smoothAll_63 : decode cX7_smoothAll 63 = .ok (.bipush 48, 2) := by decide +kernel
theorem dX7_smoothAll_65 : decode cX7_smoothAll 65 = .ok (.invokevirtual 219, 3) := by decide +kernel
theorem dX7_smoothAll_68 : decode cX7_smoothAll 68 = .ok (.iload_n 1, 1) := by decide +kernel
theorem dX7_smoothAll_69 : decode cX7_smoothAll 69 = .ok (.ifCond .le 12, 3) := by decide +kernel
theorem dX7_smoothAll_72 : decode cX7_smoothAll 72 = .ok (.aload_n 0, 1) := by decide +kernel
theorem dX7_smoothAll_73 : decode cX7_smoothAll 73 = .ok (.iload 4, 2) := by decide +kernel
theorem dX7_smoothAll_75 : decode cX7_smoothAll 75 = .ok (.bipush 48, 2) := by decide +kernel
theorem dX7_smoothAll_77 : decode cX7_smoothAll 77 = .ok (.iconst 1, 1) := by decide +kernel
theorem dX7_smoothAll_78 : decode cX7_smoothAll 78 = .ok (.invokevirtual 219, 3) := by decide +kernel
theorem dX7_smoothAll_81 : decode cX7_smoothAll 81 = .ok (.iload_n 2, 1) := by decide +kernel
theorem dX7_smoothAll_82 : decode cX7_smoothAll 82 = .ok (.iconst 1, 1) := by decide +kernel
theorem dX7_smoothAll_83 : decode cX7_smoothAll 83 = .ok (.iadd, 1) := by decide +kernel
theorem dX7_smoothAll_84 : decode cX7_smoothAll 84 = .ok (.aload_n 0, 1) := by decide +kernel
theorem dX7_smoothAll_85 : decode cX7_smoothAll 85 = .ok (.getfield 137, 3) := by decide +kernel
theorem dX7_smoothAll_88 : decode cX7_smoothAll 88 = .ok (.if_icmp .ge 26, 3) := by decide +kernel
theorem dX7_smoothAll_91 : decode cX7_smoothAll 91 = .ok (.aload_n 0, 1) := by decide +kernel
theorem dX7_smoothAll_92 : decode cX7_smoothAll 92 = .ok (.getfield 62, 3) := by decide +kernel
theorem dX7_smoothAll_95 : decode cX7_smoothAll 95 = .ok (.iload_n 3, 1) := by decide +kernel
theorem dX7_smoothAll_96 : decode cX7_smoothAll 96 = .ok (.iconst 1, 1) := by decide +kernel
theorem dX7_smoothAll_97 : decode cX7_smoothAll 97 = .ok (.iadd, 1) := by decide +kernel
theorem dX7_smoothAll_98 : decode cX7_smoothAll 98 = .ok (.iaload, 1) := by decide +kernel
theorem dX7_smoothAll_99 : decode cX7_smoothAll 99 = .ok (.ifCond .ne 15, 3) := by decide +kernel
theorem dX7_smoothAll_102 : decode cX7_smoothAll 102 = .ok (.aload_n 0, 1) := by decide +kernel
theorem dX7_smoothAll_103 : decode cX7_smoothAll 103 = .ok (.iload 4, 2) := by decide +kernel
theorem dX7_smoothAll_105 : decode cX7_smoothAll 105 = .ok (.bipush 8, 2) := by decide +kernel
theorem dX7_smoothAll_107 : decode cX7_smoothAll 107 = .ok (.iadd, 1) := by decide +kernel
theorem dX7_smoothAll_108 : decode cX7_smoothAll 108 = .ok (.iconst 1, 1) := by decide +kernel
theorem dX7_smoothAll_109 : decode cX7_smoothAll 109 = .ok (.bipush 48, 2) := by decide +kernel
theorem dX7_smoothAll_111 : decode cX7_smoothAll 111 = .ok (.invokevirtual 219, 3) := by decide +kernel
theorem dX7_smoothAll_114 : decode cX7_smoothAll 114 = .ok (.iload_n 1, 1) := by decide +kernel
theorem dX7_smoothAll_115 : decode cX7_smoothAll 115 = .ok (.iconst 1, 1) := by decide +kernel
theorem dX7_smoothAll_116 : decode cX7_smoothAll 116 = .ok (.iadd, 1) := by decide +kernel
theorem dX7_smoothAll_117 : decode cX7_smoothAll 117 = .ok (.aload_n 0, 1) := by decide +kernel
theorem dX7_smoothAll_118 : decode cX7_smoothAll 118 = .ok (.getfield 140, 3) := by decide +kernel
theorem dX7_smoothAll_121 : decode cX7_smoothAll 121 = .ok (.if_icmp .ge 28, 3) := by decide +kernel
theorem dX7_smoothAll_124 : decode cX7_smoothAll 124 = .ok (.aload_n 0, 1) := by decide +kernel
theorem dX7_smoothAll_125 : decode cX7_smoothAll 125 = .ok (.getfield 62, 3) := by decide +kernel
theorem dX7_smoothAll_128 : decode cX7_smoothAll 128 = .ok (.iload_n 3, 1) := by decide +kernel
theorem dX7_smoothAll_129 : decode cX7_smoothAll 129 = .ok (.bipush 6, 2) := by decide +kernel
theorem dX7_smoothAll_131 : decode cX7_smoothAll 131 = .ok (.iadd, 1) := by decide +kernel
theorem dX7_smoothAll_132 : decode cX7_smoothAll 132 = .ok (.iaload, 1) := by decide +kernel
theorem dX7_smoothAll_133 : decode cX7_smoothAll 133 = .ok (.ifCond .ne 16, 3) := by decide +kernel
theorem dX7_smoothAll_136 : decode cX7_smoothAll 136 = .ok (.aload_n 0, 1) := by decide +kernel
theorem dX7_smoothAll_137 : decode cX7_smoothAll 137 = .ok (.iload 4, 2) := by decide +kernel
theorem dX7_smoothAll_139 : decode cX7_smoothAll 139 = .ok (.sipush 384, 3) := by decide +kernel
theorem dX7_smoothAll_142 : decode cX7_smoothAll 142 = .ok (.iadd, 1) := by decide +kernel
theorem dX7_smoothAll_143 : decode cX7_smoothAll 143 = .ok (.bipush 48, 2) := by decide +kernel
theorem dX7_smoothAll_145 : decode cX7_smoothAll 145 = .ok (.iconst 1, 1) := by decide +kernel
theorem dX7_smoothAll_146 : decode cX7_smoothAll 146 = .ok (.invokevirtual 219, 3) := by decide +kernel
theorem dX7_smoothAll_149 : decode cX7_smoothAll 149 = .ok (.iinc 2 1, 3) := by decide +kernel
theorem dX7_smoothAll_152 : decode cX7_smoothAll 152 = .ok (.goto (-133), 3) := by decide +kernel
theorem dX7_smoothAll_155 : decode cX7_smoothAll 155 = .ok (.iinc 1 1, 3) := by decide +kernel
theorem dX7_smoothAll_158 : decode cX7_smoothAll 158 = .ok (.goto (-156), 3) := by decide +kernel
theorem dX7_smoothAll_161 : decode cX7_smoothAll 161 = .ok (.return_, 1) := by decide +kernel
set_option maxRecDepth 100000 in
theorem ggX7_readFrame_X7_bit : GoodIn wsX7_readFrame wsX7_bit := goodIn_r _ [19, 20, 21, 5, 22, 23, 24, 25, 18, 26, 132, 133, 134, 135, 136, 137, 138, 139, 140, 141, 142, 143, 144, 145, 146, 147, 148, 149, 150, 151, 152, 153, 154, 155, 156, 157, 158, 159, 160, 161, 162, 163, 164, 165, 166, 167, 168, 169, 170, 171, 172, 173] rfl (by decide +kernel)
set_option maxRecDepth 100000 in
theorem gX7_readFrame_X7_bit : GoodIn wsX7_readFrame (wsV RX7 126 RX7 yX7_bit wsX7_bit) := goodIn_app (goodIn_of _ (by decide +kernel)) ggX7_readFrame_X7_bit
set_option maxRecDepth 100000 in
theorem ggX7_readFrame_X7_fail : GoodIn wsX7_readFrame wsX7_fail := goodIn_r _ [26, 5, 132, 133, 134, 135, 136, 137, 138, 139, 140, 141, 142, 143, 144, 145, 146, 147, 148, 149, 150, 151, 152, 153, 154, 155, 156, 157, 158, 159, 160, 161, 162, 163, 164, 165, 166, 167, 168, 169, 170, 171, 172, 173] rfl (by decide +kernel)
set_option maxRecDepth 100000 in
theorem gX7_readFrame_X7_fail : GoodIn wsX7_readFrame (wsV RX7 123 RX7 yX7_fail wsX7_fail) := goodIn_app (goodIn_of _ (by decide +kernel)) ggX7_readFrame_X7_fail
set_option maxRecDepth 100000 in
theorem ggX7_readFrame_X7_bits : GoodIn wsX7_readFrame wsX7_bits := goodIn_r _ [30, 15, 16, 17, 18, 19, 20, 21, 5, 22, 23, 24, 25, 26, 132, 133, 134, 135, 136, 137, 138, 139, 140, 141, 142, 143, 144, 145, 146, 147, 148, 149, 150, 151, 152, 153, 154, 155, 156, 157, 158, 159, 160, 161, 162, 163, 164, 165, 166, 167, 168, 169, 170, 171, 172, 173] rfl (by decide +kernel)
set_option maxRecDepth 100000 in
theorem gX7_readFrame_X7_bits : GoodIn wsX7_readFrame (wsV RX7 130 RX7 yX7_bits wsX7_bits) := goodIn_app (goodIn_of _ (by decide +kernel)) ggX7_readFrame_X7_bits
set_option maxRecDepth 100000 in
theorem ggX7_readFrame_X7_readFlags : GoodIn wsX7_readFrame wsX7_readFlags := goodIn_r _ [34, 35, 5, 2, 36, 15, 16, 17, 18, 19, 20, 21, 22, 23, 24, 25, 26, 37, 38, 39, 40, 27, 28, 29, 30, 132, 133, 134, 135, 136, 137, 138, 139, 140, 141, 142, 143, 144, 145, 146, 147, 148, 149, 150, 151, 152, 153, 154, 155, 156, 157, 158, 159, 160, 161, 162, 163, 164, 165, 166, 167, 168, 169, 170, 171, 172, 173] rfl (by decide +kernel)
set_option maxRecDepth 100000 in
theorem gX7_readFrame_X7_readFlags : GoodIn wsX7_readFrame (wsV RX7 223 RX7 yX7_readFlags wsX7_readFlags) := goodIn_app (goodIn_of _ (by decide +kernel)) ggX7_readFrame_X7_readFlags
set_option maxRecDepth 100000 in
theorem ggX7_readFrame_X7_readModes : GoodIn wsX7_readFrame wsX7_readModes := goodIn_r _ [44, 35, 36, 2, 3, 4, 15, 16, 17, 18, 19, 20, 21, 5, 22, 23, 24, 25, 26, 45, 46, 47, 48, 27, 28, 29, 30, 132, 133, 134, 135, 136, 137, 138, 139, 140, 141, 142, 143, 144, 145, 146, 147, 148, 149, 150, 151, 152, 153, 154, 155, 156, 157, 158, 159, 160, 161, 162, 163, 164, 165, 166, 167, 168, 169, 170, 171, 172, 173] rfl (by decide +kernel)
set_option maxRecDepth 100000 in
theorem gX7_readFrame_X7_readModes : GoodIn wsX7_readFrame (wsV RX7 226 RX7 yX7_readModes wsX7_readModes) := goodIn_app (goodIn_of _ (by decide +kernel)) ggX7_readFrame_X7_readModes
set_option maxRecDepth 100000 in
theorem ggX7_readFrame_X7_readTokens : GoodIn wsX7_readFrame wsX7_readTokens := goodIn_r _ [52, 13, 53, 54, 35, 36, 2, 55, 56, 57, 18, 58, 59, 60, 15, 16, 17, 19, 20, 21, 5, 22, 23, 24, 25, 26, 61, 62, 63, 64, 65, 66, 67, 68, 27, 28, 29, 30, 69, 70, 71, 72, 73, 74, 75, 76, 77, 78, 79, 80, 132, 133, 134, 135, 136, 137, 138, 139, 140, 141, 142, 143, 144, 145, 146, 147, 148, 149, 150, 151, 152, 153, 154, 155, 156, 157, 158, 159, 160, 161, 162, 163, 164, 165, 166, 167, 168, 169, 170, 171, 172, 173] rfl (by decide +kernel)
set_option maxRecDepth 100000 in
theorem gX7_readFrame_X7_readTokens : GoodIn wsX7_readFrame (wsV RX7 229 RX7 yX7_readTokens wsX7_readTokens) := goodIn_app (goodIn_of _ (by decide +kernel)) ggX7_readFrame_X7_readTokens
set_option maxRecDepth 100000 in
theorem ggX7_readFrame_X7_guess : GoodIn wsX7_readFrame wsX7_guess := goodIn_r _ [84, 85, 86, 87, 2, 13, 88, 89, 18, 90, 132, 133, 134, 135, 136, 137, 138, 139, 140, 141, 142, 143, 144, 145, 146, 147, 148, 149, 150, 151, 152, 153, 154, 155, 156, 157, 158, 159, 160, 161, 162, 163, 164, 165, 166, 167, 168, 169, 170, 171, 172, 173] rfl (by decide +kernel)
set_option maxRecDepth 100000 in
theorem gX7_readFrame_X7_guess : GoodIn wsX7_readFrame (wsV RX7 232 RX7 yX7_guess wsX7_guess) := goodIn_app (goodIn_of _ (by decide +kernel)) ggX7_readFrame_X7_guess
set_option maxRecDepth 100000 in
theorem ggX7_readFrame_X7_paint : GoodIn wsX7_readFrame wsX7_paint := goodIn_r _ [94, 7, 6, 35, 36, 2, 95, 96, 97, 98, 18, 99, 100, 101, 13, 102, 103, 104, 105, 106, 107, 108, 109, 110, 111, 112, 113, 114, 115, 116, 117, 118, 8, 3, 4, 119, 120, 121, 122, 86, 87, 132, 133, 134, 135, 136, 137, 138, 139, 140, 141, 142, 143, 144, 145, 146, 147, 148, 149, 150, 151, 152, 153, 154, 155, 156, 157, 158, 159, 160, 161, 162, 163, 164, 165, 166, 167, 168, 169, 170, 171, 172, 173] rfl (by decide +kernel)
set_option maxRecDepth 100000 in
theorem gX7_readFrame_X7_paint : GoodIn wsX7_readFrame (wsV RX7 235 RX7 yX7_paint wsX7_paint) := goodIn_app (goodIn_of _ (by decide +kernel)) ggX7_readFrame_X7_paint
set_option maxRecDepth 100000 in
theorem ggX7_readFrame_X7_smoothAll : GoodIn wsX7_readFrame wsX7_smoothAll := goodIn_r _ [126, 86, 127, 87, 2, 128, 129, 130, 18, 131, 7, 107, 108, 109, 132, 133, 134, 135, 136, 137, 138, 139, 140, 141, 142, 143, 144, 145, 146, 147, 148, 149, 150, 151, 152, 153, 154, 155, 156, 157, 158, 159, 160, 161, 162, 163, 164, 165, 166, 167, 168, 169, 170, 171, 172, 173] rfl (by decide +kernel)
set_option maxRecDepth 100000 in
theorem gX7_readFrame_X7_smoothAll : GoodIn wsX7_readFrame (wsV RX7 238 RX7 yX7_smoothAll wsX7_smoothAll) := goodIn_app (goodIn_of _ (by decide +kernel)) ggX7_readFrame_X7_smoothAll
theorem dX7_readFrame_0 : decode cX7_readFrame 0 = .ok (.aload_n 0, 1) := by decide +kernel
theorem dX7_readFrame_1 : decode cX7_readFrame 1 = .ok (.invokevirtual 126, 3) := by decide +kernel
theorem dX7_readFrame_4 : decode cX7_readFrame 4 = .ok (.iconst 1, 1) := by decide +kernel
theorem dX7_readFrame_5 : decode cX7_readFrame 5 = .ok (.if_icmp .ne 7, 3) := by decide +kernel
theorem dX7_readFrame_8 : decode cX7_readFrame 8 = .ok (.iconst 1, 1) := by decide +kernel
theorem dX7_readFrame_9 : decode cX7_readFrame 9 = .ok (.goto 4, 3) := by decide +kernel
theorem dX7_readFrame_12 : decode cX7_readFrame 12 = .ok (.iconst 0, 1) := by decide +kernel
theorem dX7_readFrame_13 : decode cX7_readFrame 13 = .ok (.istore_n 1, 1) := by decide +kernel
theorem dX7_readFrame_14 : decode cX7_readFrame 14 = .ok (.iload_n 1, 1) := by decide +kernel
theorem dX7_readFrame_15 : decode cX7_readFrame 15 = .ok (.ifCond .eq 15, 3) := by decide +kernel
theorem dX7_readFrame_18 : decode cX7_readFrame 18 = .ok (.aload_n 0, 1) := by decide +kernel
theorem dX7_readFrame_19 : decode cX7_readFrame 19 = .ok (.getfield 156, 3) := by decide +kernel
theorem dX7_readFrame_22 : decode cX7_readFrame 22 = .ok (.ifCond .ne 8, 3) := by decide +kernel
theorem dX7_readFrame_25 : decode cX7_readFrame 25 = .ok (.aload_n 0, 1) := by decide +kernel
theorem dX7_readFrame_26 : decode cX7_readFrame 26 = .ok (.iconst 4, 1) := by decide +kernel
theorem dX7_readFrame_27 : decode cX7_readFrame 27 = .ok (.invokevirtual 123, 3) := by decide +kernel
theorem dX7_readFrame_30 : decode cX7_readFrame 30 = .ok (.aload_n 0, 1) := by decide +kernel
theorem dX7_readFrame_31 : decode cX7_readFrame 31 = .ok (.iconst 3, 1) := by decide +kernel
theorem dX7_readFrame_32 : decode cX7_readFrame 32 = .ok (.invokevirtual 130, 3) := by decide +kernel
theorem dX7_readFrame_35 : decode cX7_readFrame 35 = .ok (.istore_n 2, 1) := by decide +kernel
theorem dX7_readFrame_36 : decode cX7_readFrame 36 = .ok (.aload_n 0, 1) := by decide +kernel
theorem dX7_readFrame_37 : decode cX7_readFrame 37 = .ok (.invokevirtual 126, 3) := by decide +kernel
theorem dX7_readFrame_40 : decode cX7_readFrame 40 = .ok (.iconst 1, 1) := by decide +kernel
theorem dX7_readFrame_41 : decode cX7_readFrame 41 = .ok (.if_icmp .ne 7, 3) := by decide +kernel
theorem dX7_readFrame_44 : decode cX7_readFrame 44 = .ok (.iconst 1, 1) := by decide +kernel
theorem dX7_readFrame_45 : decode cX7_readFrame 45 = .ok (.goto 4, 3) := by decide +kernel
theorem dX7_readFrame_48 : decode cX7_readFrame 48 = .ok (.iconst 0, 1) := by decide +kernel
theorem dX7_readFrame_49 : decode cX7_readFrame 49 = .ok (.istore_n 3, 1) := by decide +kernel
theorem dX7_readFrame_50 : decode cX7_readFrame 50 = .ok (.iconst 0, 1) := by decide +kernel
theorem dX7_readFrame_51 : decode cX7_readFrame 51 = .ok (.istore 4, 2) := by decide +kernel
theorem dX7_readFrame_53 : decode cX7_readFrame 53 = .ok (.iload 4, 2) := by decide +kernel
theorem dX7_readFrame_55 : decode cX7_readFrame 55 = .ok (.bipush 36, 2) := by decide +kernel
theorem dX7_readFrame_57 : decode cX7_readFrame 57 = .ok (.if_icmp .ge 41, 3) := by decide +kernel
theorem dX7_readFrame_60 : decode cX7_readFrame 60 = .ok (.aload_n 0, 1) := by decide +kernel
theorem dX7_readFrame_61 : decode cX7_readFrame 61 = .ok (.getfield 62, 3) := by decide +kernel
theorem dX7_readFrame_64 : decode cX7_readFrame 64 = .ok (.iload 4, 2) := by decide +kernel
theorem dX7_readFrame_66 : decode cX7_readFrame 66 = .ok (.iload_n 1, 1) := by decide +kernel
theorem dX7_readFrame_67 : decode cX7_readFrame 67 = .ok (.ifCond .eq 7, 3) := by decide +kernel
theorem dX7_readFrame_70 : decode cX7_readFrame 70 = .ok (.iconst 0, 1) := by decide +kernel
theorem dX7_readFrame_71 : decode cX7_readFrame 71 = .ok (.goto 4, 3) := by decide +kernel
theorem dX7_readFrame_74 : decode cX7_readFrame 74 = .ok (.iconst 2, 1) := by decide +kernel
theorem dX7_readFrame_75 : decode cX7_readFrame 75 = .ok (.iastore, 1) := by decide +kernel
theorem dX7_readFrame_76 : decode cX7_readFrame 76 = .ok (.aload_n 0, 1) := by decide +kernel
theorem dX7_readFrame_77 : decode cX7_readFrame 77 = .ok (.getfield 65, 3) := by decide +kernel
theorem dX7_readFrame_80 : decode cX7_readFrame 80 = .ok (.iload 4, 2) := by decide +kernel
theorem dX7_readFrame_82 : decode cX7_readFrame 82 = .ok (.iconst 0, 1) := by decide +kernel
theorem dX7_readFrame_83 : decode cX7_readFrame 83 = .ok (.iastore, 1) := by decide +kernel
theorem dX7_readFrame_84 : decode cX7_readFrame 84 = .ok (.aload_n 0, 1) := by decide +kernel
theorem dX7_readFrame_85 : decode cX7_readFrame 85 = .ok (.getfield 68, 3) := by decide +kernel
theorem dX7_readFrame_88 : decode cX7_readFrame 88 = .ok (.iload 4, 2) := by decide +kernel
theorem dX7_readFrame_90 : decode cX7_readFrame 90 = .ok (.iconst 0, 1) := by decide +kernel
theorem dX7_readFrame_91 : decode cX7_readFrame 91 = .ok (.iastore, 1) := by decide +kernel
theorem dX7_readFrame_92 : decode cX7_readFrame 92 = .ok (.iinc 4 1, 3) := by decide +kernel
theorem dX7_readFrame_95 : decode cX7_readFrame 95 = .ok (.goto (-42), 3) := by decide +kernel
theorem dX7_readFrame_98 : decode cX7_readFrame 98 = .ok (.iload_n 1, 1) := by decide +kernel
theorem dX7_readFrame_99 : decode cX7_readFrame 99 = .ok (.ifCond .eq 11, 3) := by decide +kernel
theorem dX7_readFrame_102 : decode cX7_readFrame 102 = .ok (.aload_n 0, 1) := by decide +kernel
theorem dX7_readFrame_103 : decode cX7_readFrame 103 = .ok (.invokevirtual 223, 3) := by decide +kernel
theorem dX7_readFrame_106 : decode cX7_readFrame 106 = .ok (.aload_n 0, 1) := by decide +kernel
theorem dX7_readFrame_107 : decode cX7_readFrame 107 = .ok (.invokevirtual 226, 3) := by decide +kernel
theorem dX7_readFrame_110 : decode cX7_readFrame 110 = .ok (.aload_n 0, 1) := by decide +kernel
theorem dX7_readFrame_111 : decode cX7_readFrame 111 = .ok (.invokevirtual 229, 3) := by decide +kernel
theorem dX7_readFrame_114 : decode cX7_readFrame 114 = .ok (.aload_n 0, 1) := by decide +kernel
theorem dX7_readFrame_115 : decode cX7_readFrame 115 = .ok (.getfield 117, 3) := by decide +kernel
theorem dX7_readFrame_118 : decode cX7_readFrame 118 = .ok (.ifCond .le 4, 3) := by decide +kernel
theorem dX7_readFrame_121 : decode cX7_readFrame 121 = .ok (.return_, 1) := by decide +kernel
theorem dX7_readFrame_122 : decode cX7_readFrame 122 = .ok (.aload_n 0, 1) := by decide +kernel
theorem dX7_readFrame_123 : decode cX7_readFrame 123 = .ok (.invokevirtual 232, 3) := by decide +kernel
theorem dX7_readFrame_126 : decode cX7_readFrame 126 = .ok (.aload_n 0, 1) := by decide +kernel
theorem dX7_readFrame_127 : decode cX7_readFrame 127 = .ok (.iload_n 2, 1) := by decide +kernel
theorem dX7_readFrame_128 : decode cX7_readFrame 128 = .ok (.invokevirtual 235, 3) := by decide +kernel
theorem dX7_readFrame_131 : decode cX7_readFrame 131 = .ok (.aload_n 0, 1) := by decide +kernel
theorem dX7_readFrame_132 : decode cX7_readFrame 132 = .ok (.invokevirtual 238, 3) := by decide +kernel
theorem dX7_readFrame_135 : decode cX7_readFrame 135 = .ok (.iconst 0, 1) := by decide +kernel
theorem dX7_readFrame_136 : decode cX7_readFrame 136 = .ok (.istore 4, 2) := by decide +kernel
theorem dX7_readFrame_138 : decode cX7_readFrame 138 = .ok (.iload 4, 2) := by decide +kernel
theorem dX7_readFrame_140 : decode cX7_readFrame 140 = .ok (.sipush 2304, 3) := by decide +kernel
theorem dX7_readFrame_143 : decode cX7_readFrame 143 = .ok (.if_icmp .ge 55, 3) := by decide +kernel
theorem dX7_readFrame_146 : decode cX7_readFrame 146 = .ok (.aload_n 0, 1) := by decide +kernel
theorem dX7_readFrame_147 : decode cX7_readFrame 147 = .ok (.getfield 38, 3) := by decide +kernel
theorem dX7_readFrame_150 : decode cX7_readFrame 150 = .ok (.iload 4, 2) := by decide +kernel
theorem dX7_readFrame_152 : decode cX7_readFrame 152 = .ok (.aload_n 0, 1) := by decide +kernel
theorem dX7_readFrame_153 : decode cX7_readFrame 153 = .ok (.getfield 44, 3) := by decide +kernel
theorem dX7_readFrame_156 : decode cX7_readFrame 156 = .ok (.iload 4, 2) := by decide +kernel
theorem dX7_readFrame_158 : decode cX7_readFrame 158 = .ok (.iaload, 1) := by decide +kernel
theorem dX7_readFrame_159 : decode cX7_readFrame 159 = .ok (.iastore, 1) := by decide +kernel
theorem dX7_readFrame_160 : decode cX7_readFrame 160 = .ok (.aload_n 0, 1) := by decide +kernel
theorem dX7_readFrame_161 : decode cX7_readFrame 161 = .ok (.getfield 41, 3) := by decide +kernel
theorem dX7_readFrame_164 : decode cX7_readFrame 164 = .ok (.iload 4, 2) := by decide +kernel
theorem dX7_readFrame_166 : decode cX7_readFrame 166 = .ok (.iload_n 1, 1) := by decide +kernel
theorem dX7_readFrame_167 : decode cX7_readFrame 167 = .ok (.ifCond .eq 7, 3) := by decide +kernel
theorem dX7_readFrame_170 : decode cX7_readFrame 170 = .ok (.iload_n 3, 1) := by decide +kernel
theorem dX7_readFrame_171 : decode cX7_readFrame 171 = .ok (.ifCond .eq 13, 3) := by decide +kernel
theorem dX7_readFrame_174 : decode cX7_readFrame 174 = .ok (.aload_n 0, 1) := by decide +kernel
theorem dX7_readFrame_175 : decode cX7_readFrame 175 = .ok (.getfield 44, 3) := by decide +kernel
theorem dX7_readFrame_178 : decode cX7_readFrame 178 = .ok (.iload 4, 2) := by decide +kernel
theorem dX7_readFrame_180 : decode cX7_readFrame 180 = .ok (.iaload, 1) := by decide +kernel
theorem dX7_readFrame_181 : decode cX7_readFrame 181 = .ok (.goto 10, 3) := by decide +kernel
theorem dX7_readFrame_184 : decode cX7_readFrame 184 = .ok (.aload_n 0, 1) := by decide +kernel
theorem dX7_readFrame_185 : decode cX7_readFrame 185 = .ok (.getfield 41, 3) := by decide +kernel
theorem dX7_readFrame_188 : decode cX7_readFrame 188 = .ok (.iload 4, 2) := by decide +kernel
theorem dX7_readFrame_190 : decode cX7_readFrame 190 = .ok (.iaload, 1) := by decide +kernel
theorem dX7_readFrame_191 : decode cX7_readFrame 191 = .ok (.iastore, 1) := by decide +kernel
theorem dX7_readFrame_192 : decode cX7_readFrame 192 = .ok (.iinc 4 1, 3) := by decide +kernel
theorem dX7_readFrame_195 : decode cX7_readFrame 195 = .ok (.goto (-57), 3) := by decide +kernel
theorem dX7_readFrame_198 : decode cX7_readFrame 198 = .ok (.iconst 0, 1) := by decide +kernel
theorem dX7_readFrame_199 : decode cX7_readFrame 199 = .ok (.istore 4, 2) := by decide +kernel
theorem dX7_readFrame_201 : decode cX7_readFrame 201 = .ok (.iload 4, 2) := by decide +kernel
theorem dX7_readFrame_203 : decode cX7_readFrame 203 = .ok (.bipush 36, 2) := by decide +kernel
theorem dX7_readFrame_205 : decode cX7_readFrame 205 = .ok (.if_icmp .ge 82, 3) := by decide +kernel
theorem dX7_readFrame_208 : decode cX7_readFrame 208 = .ok (.aload_n 0, 1) := by decide +kernel
theorem dX7_readFrame_209 : decode cX7_readFrame 209 = .ok (.getfield 50, 3) := by decide +kernel
theorem dX7_readFrame_212 : decode cX7_readFrame 212 = .ok (.iload 4, 2) := by decide +kernel
theorem dX7_readFrame_214 : decode cX7_readFrame 214 = .ok (.aload_n 0, 1) := by decide +kernel
theorem dX7_readFrame_215 : decode cX7_readFrame 215 = .ok (.getfield 62, 3) := by decide +kernel
theorem dX7_readFrame_218 : decode cX7_readFrame 218 = .ok (.iload 4, 2) := by decide +kernel
theorem dX7_readFrame_220 : decode cX7_readFrame 220 = .ok (.iaload, 1) := by decide +kernel
theorem dX7_readFrame_221 : decode cX7_readFrame 221 = .ok (.iastore, 1) := by decide +kernel
theorem dX7_readFrame_222 : decode cX7_readFrame 222 = .ok (.aload_n 0, 1) := by decide +kernel
theorem dX7_readFrame_223 : decode cX7_readFrame 223 = .ok (.getfield 53, 3) := by decide +kernel
theorem dX7_readFrame_226 : decode cX7_readFrame 226 = .ok (.iload 4, 2) := by decide +kernel
theorem dX7_readFrame_228 : decode cX7_readFrame 228 = .ok (.aload_n 0, 1) := by decide +kernel
theorem dX7_readFrame_229 : decode cX7_readFrame 229 = .ok (.getfield 65, 3) := by decide +kernel
theorem dX7_readFrame_232 : decode cX7_readFrame 232 = .ok (.iload 4, 2) := by decide +kernel
theorem dX7_readFrame_234 : decode cX7_readFrame 234 = .ok (.iaload, 1) := by decide +kernel
theorem dX7_readFrame_235 : decode cX7_readFrame 235 = .ok (.iastore, 1) := by decide +kernel
theorem dX7_readFrame_236 : decode cX7_readFrame 236 = .ok (.aload_n 0, 1) := by decide +kernel
theorem dX7_readFrame_237 : decode cX7_readFrame 237 = .ok (.getfield 56, 3) := by decide +kernel
theorem dX7_readFrame_240 : decode cX7_readFrame 240 = .ok (.iload 4, 2) := by decide +kernel
theorem dX7_readFrame_242 : decode cX7_readFrame 242 = .ok (.aload_n 0, 1) := by decide +kernel
theorem dX7_readFrame_243 : decode cX7_readFrame 243 = .ok (.getfield 68, 3) := by decide +kernel
theorem dX7_readFrame_246 : decode cX7_readFrame 246 = .ok (.iload 4, 2) := by decide +kernel
theorem dX7_readFrame_248 : decode cX7_readFrame 248 = .ok (.iaload, 1) := by decide +kernel
theorem dX7_readFrame_249 : decode cX7_readFrame 249 = .ok (.iastore, 1) := by decide +kernel
theorem dX7_readFrame_250 : decode cX7_readFrame 250 = .ok (.aload_n 0, 1) := by decide +kernel
theorem dX7_readFrame_251 : decode cX7_readFrame 251 = .ok (.getfield 59, 3) := by decide +kernel
theorem dX7_readFrame_254 : decode cX7_readFrame 254 = .ok (.iload 4, 2) := by decide +kernel
theorem dX7_readFrame_256 : decode cX7_readFrame 256 = .ok (.aload_n 0, 1) := by decide +kernel
