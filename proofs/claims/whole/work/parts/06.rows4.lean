theorem dX12_advance_65 : decode cX12_advance 65 = .ok (.goto 251, 3) := by decide +kernel
theorem dX12_advance_68 : decode cX12_advance 68 = .ok (.iload_n 1, 1) := by decide +kernel
theorem dX12_advance_69 : decode cX12_advance 69 = .ok (.invokestatic 78, 3) := by decide +kernel
theorem dX12_advance_72 : decode cX12_advance 72 = .ok (.ifCond .eq 113, 3) := by decide +kernel
theorem dX12_advance_75 : decode cX12_advance 75 = .ok (.lconst 0, 1) := by decide +kernel
theorem dX12_advance_76 : decode cX12_advance 76 = .ok (.lstore_n 2, 1) := by decide +kernel
theorem dX12_advance_77 : decode cX12_advance 77 = .ok (.aload_n 0, 1) := by decide +kernel
theorem dX12_advance_78 : decode cX12_advance 78 = .ok (.aload_n 0, 1) := by decide +kernel
theorem dX12_advance_79 : decode cX12_advance 79 = .ok (.getfield 65, 3) := by decide +kernel
theorem dX12_advance_82 : decode cX12_advance 82 = .ok (.invokevirtual 68, 3) := by decide +kernel
theorem dX12_advance_85 : decode cX12_advance 85 = .ok (.invokestatic 78, 3) := by decide +kernel
theorem dX12_advance_88 : decode cX12_advance 88 = .ok (.ifCond .eq 50, 3) := by decide +kernel
theorem dX12_advance_91 : decode cX12_advance 91 = .ok (.aload_n 0, 1) := by decide +kernel
theorem dX12_advance_92 : decode cX12_advance 92 = .ok (.getfield 65, 3) := by decide +kernel
theorem dX12_advance_95 : decode cX12_advance 95 = .ok (.aload_n 0, 1) := by decide +kernel
theorem dX12_advance_96 : decode cX12_advance 96 = .ok (.getfield 72, 3) := by decide +kernel
theorem dX12_advance_99 : decode cX12_advance 99 = .ok (.isub, 1) := by decide +kernel
theorem dX12_advance_100 : decode cX12_advance 100 = .ok (.bipush 6, 2) := by decide +kernel
theorem dX12_advance_102 : decode cX12_advance 102 = .ok (.if_icmp .ge 23, 3) := by decide +kernel
theorem dX12_advance_105 : decode cX12_advance 105 = .ok (.ldc2_w 45, 3) := by decide +kernel
theorem dX12_advance_108 : decode cX12_advance 108 = .ok (.lload_n 2, 1) := by decide +kernel
theorem dX12_advance_109 : decode cX12_advance 109 = .ok (.lmul, 1) := by decide +kernel
theorem dX12_advance_110 : decode cX12_advance 110 = .ok (.aload_n 0, 1) := by decide +kernel
theorem dX12_advance_111 : decode cX12_advance 111 = .ok (.aload_n 0, 1) := by decide +kernel
theorem dX12_advance_112 : decode cX12_advance 112 = .ok (.getfield 65, 3) := by decide +kernel
theorem dX12_advance_115 : decode cX12_advance 115 = .ok (.invokevirtual 68, 3) := by decide +kernel
theorem dX12_advance_118 : decode cX12_advance 118 = .ok (.i2l, 1) := by decide +kernel
theorem dX12_advance_119 : decode cX12_advance 119 = .ok (.ladd, 1) := by decide +kernel
theorem dX12_advance_120 : decode cX12_advance 120 = .ok (.ldc2_w 47, 3) := by decide +kernel
theorem dX12_advance_123 : decode cX12_advance 123 = .ok (.lsub, 1) := by decide +kernel
theorem dX12_advance_124 : decode cX12_advance 124 = .ok (.lstore_n 2, 1) := by decide +kernel
theorem dX12_advance_125 : decode cX12_advance 125 = .ok (.aload_n 0, 1) := by decide +kernel
theorem dX12_advance_126 : decode cX12_advance 126 = .ok (.dup, 1) := by decide +kernel
theorem dX12_advance_127 : decode cX12_advance 127 = .ok (.getfield 65, 3) := by decide +kernel
theorem dX12_advance_130 : decode cX12_advance 130 = .ok (.iconst 1, 1) := by decide +kernel
theorem dX12_advance_131 : decode cX12_advance 131 = .ok (.iadd, 1) := by decide +kernel
theorem dX12_advance_132 : decode cX12_advance 132 = .ok (.putfield 65, 3) := by decide +kernel
theorem dX12_advance_135 : decode cX12_advance 135 = .ok (.goto (-58), 3) := by decide +kernel
theorem dX12_advance_138 : decode cX12_advance 138 = .ok (.aload_n 0, 1) := by decide +kernel
theorem dX12_advance_139 : decode cX12_advance 139 = .ok (.aload_n 0, 1) := by decide +kernel
theorem dX12_advance_140 : decode cX12_advance 140 = .ok (.getfield 65, 3) := by decide +kernel
theorem dX12_advance_143 : decode cX12_advance 143 = .ok (.aload_n 0, 1) := by decide +kernel
theorem dX12_advance_144 : decode cX12_advance 144 = .ok (.getfield 72, 3) := by decide +kernel
theorem dX12_advance_147 : decode cX12_advance 147 = .ok (.isub, 1) := by decide +kernel
theorem dX12_advance_148 : decode cX12_advance 148 = .ok (.iconst 5, 1) := by decide +kernel
theorem dX12_advance_149 : decode cX12_advance 149 = .ok (.if_icmp .le 8, 3) := by decide +kernel
theorem dX12_advance_152 : decode cX12_advance 152 = .ok (.bipush 99, 2) := by decide +kernel
theorem dX12_advance_154 : decode cX12_advance 154 = .ok (.goto 7, 3) := by decide +kernel
theorem dX12_advance_157 : decode cX12_advance 157 = .ok (.lload_n 2, 1) := by decide +kernel
theorem dX12_advance_158 : decode cX12_advance 158 = .ok (.invokestatic 82, 3) := by decide +kernel
theorem dX12_advance_161 : decode cX12_advance 161 = .ok (.putfield 86, 3) := by decide +kernel
theorem dX12_advance_164 : decode cX12_advance 164 = .ok (.aload_n 0, 1) := by decide +kernel
theorem dX12_advance_165 : decode cX12_advance 165 = .ok (.aload_n 0, 1) := by decide +kernel
theorem dX12_advance_166 : decode cX12_advance 166 = .ok (.getfield 86, 3) := by decide +kernel
theorem dX12_advance_169 : decode cX12_advance 169 = .ok (.bipush 99, 2) := by decide +kernel
theorem dX12_advance_171 : decode cX12_advance 171 = .ok (.if_icmp .ne 7, 3) := by decide +kernel
theorem dX12_advance_174 : decode cX12_advance 174 = .ok (.iconst 4, 1) := by decide +kernel
theorem dX12_advance_175 : decode cX12_advance 175 = .ok (.goto 4, 3) := by decide +kernel
theorem dX12_advance_178 : decode cX12_advance 178 = .ok (.iconst 3, 1) := by decide +kernel
theorem dX12_advance_179 : decode cX12_advance 179 = .ok (.putfield 75, 3) := by decide +kernel
theorem dX12_advance_182 : decode cX12_advance 182 = .ok (.goto 134, 3) := by decide +kernel
theorem dX12_advance_185 : decode cX12_advance 185 = .ok (.iload_n 1, 1) := by decide +kernel
theorem dX12_advance_186 : decode cX12_advance 186 = .ok (.invokestatic 89, 3) := by decide +kernel
theorem dX12_advance_189 : decode cX12_advance 189 = .ok (.ifCond .eq 96, 3) := by decide +kernel
theorem dX12_advance_192 : decode cX12_advance 192 = .ok (.aload_n 0, 1) := by decide +kernel
theorem dX12_advance_193 : decode cX12_advance 193 = .ok (.iconst 0, 1) := by decide +kernel
theorem dX12_advance_194 : decode cX12_advance 194 = .ok (.putfield 92, 3) := by decide +kernel
theorem dX12_advance_197 : decode cX12_advance 197 = .ok (.aload_n 0, 1) := by decide +kernel
theorem dX12_advance_198 : decode cX12_advance 198 = .ok (.aload_n 0, 1) := by decide +kernel
theorem dX12_advance_199 : decode cX12_advance 199 = .ok (.getfield 65, 3) := by decide +kernel
theorem dX12_advance_202 : decode cX12_advance 202 = .ok (.invokevirtual 68, 3) := by decide +kernel
theorem dX12_advance_205 : decode cX12_advance 205 = .ok (.invokestatic 89, 3) := by decide +kernel
theorem dX12_advance_208 : decode cX12_advance 208 = .ok (.ifCond .eq 52, 3) := by decide +kernel
theorem dX12_advance_211 : decode cX12_advance 211 = .ok (.aload_n 0, 1) := by decide +kernel
theorem dX12_advance_212 : decode cX12_advance 212 = .ok (.getfield 65, 3) := by decide +kernel
theorem dX12_advance_215 : decode cX12_advance 215 = .ok (.aload_n 0, 1) := by decide +kernel
theorem dX12_advance_216 : decode cX12_advance 216 = .ok (.getfield 72, 3) := by decide +kernel
theorem dX12_advance_219 : decode cX12_advance 219 = .ok (.isub, 1) := by decide +kernel
theorem dX12_advance_220 : decode cX12_advance 220 = .ok (.iconst 3, 1) := by decide +kernel
theorem dX12_advance_221 : decode cX12_advance 221 = .ok (.if_icmp .ge 26, 3) := by decide +kernel
theorem dX12_advance_224 : decode cX12_advance 224 = .ok (.aload_n 0, 1) := by decide +kernel
theorem dX12_advance_225 : decode cX12_advance 225 = .ok (.bipush 10, 2) := by decide +kernel
theorem dX12_advance_227 : decode cX12_advance 227 = .ok (.aload_n 0, 1) := by decide +kernel
theorem dX12_advance_228 : decode cX12_advance 228 = .ok (.getfield 92, 3) := by decide +kernel
theorem dX12_advance_231 : decode cX12_advance 231 = .ok (.imul, 1) := by decide +kernel
theorem dX12_advance_232 : decode cX12_advance 232 = .ok (.aload_n 0, 1) := by decide +kernel
theorem dX12_advance_233 : decode cX12_advance 233 = .ok (.aload_n 0, 1) := by decide +kernel
theorem dX12_advance_234 : decode cX12_advance 234 = .ok (.getfield 65, 3) := by decide +kernel
theorem dX12_advance_237 : decode cX12_advance 237 = .ok (.invokevirtual 68, 3) := by decide +kernel
theorem dX12_advance_240 : decode cX12_advance 240 = .ok (.iadd, 1) := by decide +kernel
theorem dX12_advance_241 : decode cX12_advance 241 = .ok (.bipush 48, 2) := by decide +kernel
theorem dX12_advance_243 : decode cX12_advance 243 = .ok (.isub, 1) := by decide +kernel
theorem dX12_advance_244 : decode cX12_advance 244 = .ok (.putfield 92, 3) := by decide +kernel
theorem dX12_advance_247 : decode cX12_advance 247 = .ok (.aload_n 0, 1) := by decide +kernel
theorem dX12_advance_248 : decode cX12_advance 248 = .ok (.dup, 1) := by decide +kernel
theorem dX12_advance_249 : decode cX12_advance 249 = .ok (.getfield 65, 3) := by decide +kernel
theorem dX12_advance_252 : decode cX12_advance 252 = .ok (.iconst 1, 1) := by decide +kernel
theorem dX12_advance_253 : decode cX12_advance 253 = .ok (.iadd, 1) := by decide +kernel
theorem dX12_advance_254 : decode cX12_advance 254 = .ok (.putfield 65, 3) := by decide +kernel
theorem dX12_advance_257 : decode cX12_advance 257 = .ok (.goto (-60), 3) := by decide +kernel
theorem dX12_advance_260 : decode cX12_advance 260 = .ok (.aload_n 0, 1) := by decide +kernel
theorem dX12_advance_261 : decode cX12_advance 261 = .ok (.aload_n 0, 1) := by decide +kernel
theorem dX12_advance_262 : decode cX12_advance 262 = .ok (.getfield 65, 3) := by decide +kernel
theorem dX12_advance_265 : decode cX12_advance 265 = .ok (.aload_n 0, 1) := by decide +kernel
theorem dX12_advance_266 : decode cX12_advance 266 = .ok (.getfield 72, 3) := by decide +kernel
theorem dX12_advance_269 : decode cX12_advance 269 = .ok (.isub, 1) := by decide +kernel
theorem dX12_advance_270 : decode cX12_advance 270 = .ok (.iconst 3, 1) := by decide +kernel
theorem dX12_advance_271 : decode cX12_advance 271 = .ok (.if_icmp .le 7, 3) := by decide +kernel
theorem dX12_advance_274 : decode cX12_advance 274 = .ok (.iconst 4, 1) := by decide +kernel
theorem dX12_advance_275 : decode cX12_advance 275 = .ok (.goto 4, 3) := by decide +kernel
theorem dX12_advance_278 : decode cX12_advance 278 = .ok (.iconst 1, 1) := by decide +kernel
theorem dX12_advance_279 : decode cX12_advance 279 = .ok (.putfield 75, 3) := by decide +kernel
theorem dX12_advance_282 : decode cX12_advance 282 = .ok (.goto 34, 3) := by decide +kernel
theorem dX12_advance_285 : decode cX12_advance 285 = .ok (.aload_n 0, 1) := by decide +kernel
theorem dX12_advance_286 : decode cX12_advance 286 = .ok (.dup, 1) := by decide +kernel
theorem dX12_advance_287 : decode cX12_advance 287 = .ok (.getfield 65, 3) := by decide +kernel
theorem dX12_advance_290 : decode cX12_advance 290 = .ok (.iconst 1, 1) := by decide +kernel
theorem dX12_advance_291 : decode cX12_advance 291 = .ok (.iadd, 1) := by decide +kernel
theorem dX12_advance_292 : decode cX12_advance 292 = .ok (.putfield 65, 3) := by decide +kernel
theorem dX12_advance_295 : decode cX12_advance 295 = .ok (.aload_n 0, 1) := by decide +kernel
theorem dX12_advance_296 : decode cX12_advance 296 = .ok (.iload_n 1, 1) := by decide +kernel
theorem dX12_advance_297 : decode cX12_advance 297 = .ok (.putfield 95, 3) := by decide +kernel
theorem dX12_advance_300 : decode cX12_advance 300 = .ok (.aload_n 0, 1) := by decide +kernel
theorem dX12_advance_301 : decode cX12_advance 301 = .ok (.iload_n 1, 1) := by decide +kernel
theorem dX12_advance_302 : decode cX12_advance 302 = .ok (.invokestatic 98, 3) := by decide +kernel
theorem dX12_advance_305 : decode cX12_advance 305 = .ok (.ifCond .eq 7, 3) := by decide +kernel
theorem dX12_advance_308 : decode cX12_advance 308 = .ok (.iconst 2, 1) := by decide +kernel
theorem dX12_advance_309 : decode cX12_advance 309 = .ok (.goto 4, 3) := by decide +kernel
theorem dX12_advance_312 : decode cX12_advance 312 = .ok (.iconst 4, 1) := by decide +kernel
theorem dX12_advance_313 : decode cX12_advance 313 = .ok (.putfield 75, 3) := by decide +kernel
theorem dX12_advance_316 : decode cX12_advance 316 = .ok (.return_, 1) := by decide +kernel
theorem dX12_stops_0 : decode cX12_stops 0 = .ok (.aload_n 0, 1) := by decide +kernel
theorem dX12_stops_1 : decode cX12_stops 1 = .ok (.getfield 101, 3) := by decide +kernel
theorem dX12_stops_4 : decode cX12_stops 4 = .ok (.ifCond .eq 4, 3) := by decide +kernel
theorem dX12_stops_7 : decode cX12_stops 7 = .ok (.return_, 1) := by decide +kernel
theorem dX12_stops_8 : decode cX12_stops 8 = .ok (.aload_n 0, 1) := by decide +kernel
theorem dX12_stops_9 : decode cX12_stops 9 = .ok (.iconst 1, 1) := by decide +kernel
theorem dX12_stops_10 : decode cX12_stops 10 = .ok (.putfield 101, 3) := by decide +kernel
theorem dX12_stops_13 : decode cX12_stops 13 = .ok (.aload_n 0, 1) := by decide +kernel
theorem dX12_stops_14 : decode cX12_stops 14 = .ok (.getfield 7, 3) := by decide +kernel
theorem dX12_stops_17 : decode cX12_stops 17 = .ok (.bipush 13, 2) := by decide +kernel
theorem dX12_stops_19 : decode cX12_stops 19 = .ok (.iconst 1, 1) := by decide +kernel
theorem dX12_stops_20 : decode cX12_stops 20 = .ok (.iastore, 1) := by decide +kernel
theorem dX12_stops_21 : decode cX12_stops 21 = .ok (.aload_n 0, 1) := by decide +kernel
theorem dX12_stops_22 : decode cX12_stops 22 = .ok (.getfield 7, 3) := by decide +kernel
theorem dX12_stops_25 : decode cX12_stops 25 = .ok (.bipush 14, 2) := by decide +kernel
theorem dX12_stops_27 : decode cX12_stops 27 = .ok (.aload_n 0, 1) := by decide +kernel
theorem dX12_stops_28 : decode cX12_stops 28 = .ok (.getfield 72, 3) := by decide +kernel
theorem dX12_stops_31 : decode cX12_stops 31 = .ok (.iastore, 1) := by decide +kernel
theorem dX12_stops_32 : decode cX12_stops 32 = .ok (.return_, 1) := by decide +kernel
theorem dX12_tooMany_0 : decode cX12_tooMany 0 = .ok (.aload_n 0, 1) := by decide +kernel
theorem dX12_tooMany_1 : decode cX12_tooMany 1 = .ok (.getfield 101, 3) := by decide +kernel
theorem dX12_tooMany_4 : decode cX12_tooMany 4 = .ok (.ifCond .ne 13, 3) := by decide +kernel
theorem dX12_tooMany_7 : decode cX12_tooMany 7 = .ok (.aload_n 0, 1) := by decide +kernel
theorem dX12_tooMany_8 : decode cX12_tooMany 8 = .ok (.getfield 7, 3) := by decide +kernel
theorem dX12_tooMany_11 : decode cX12_tooMany 11 = .ok (.bipush 13, 2) := by decide +kernel
theorem dX12_tooMany_13 : decode cX12_tooMany 13 = .ok (.iaload, 1) := by decide +kernel
theorem dX12_tooMany_14 : decode cX12_tooMany 14 = .ok (.ifCond .eq 4, 3) := by decide +kernel
theorem dX12_tooMany_17 : decode cX12_tooMany 17 = .ok (.return_, 1) := by decide +kernel
theorem dX12_tooMany_18 : decode cX12_tooMany 18 = .ok (.aload_n 0, 1) := by decide +kernel
theorem dX12_tooMany_19 : decode cX12_tooMany 19 = .ok (.getfield 7, 3) := by decide +kernel
theorem dX12_tooMany_22 : decode cX12_tooMany 22 = .ok (.bipush 13, 2) := by decide +kernel
theorem dX12_tooMany_24 : decode cX12_tooMany 24 = .ok (.iconst 3, 1) := by decide +kernel
theorem dX12_tooMany_25 : decode cX12_tooMany 25 = .ok (.iastore, 1) := by decide +kernel
theorem dX12_tooMany_26 : decode cX12_tooMany 26 = .ok (.aload_n 0, 1) := by decide +kernel
theorem dX12_tooMany_27 : decode cX12_tooMany 27 = .ok (.getfield 7, 3) := by decide +kernel
theorem dX12_tooMany_30 : decode cX12_tooMany 30 = .ok (.bipush 14, 2) := by decide +kernel
theorem dX12_tooMany_32 : decode cX12_tooMany 32 = .ok (.aload_n 0, 1) := by decide +kernel
theorem dX12_tooMany_33 : decode cX12_tooMany 33 = .ok (.getfield 72, 3) := by decide +kernel
theorem dX12_tooMany_36 : decode cX12_tooMany 36 = .ok (.iastore, 1) := by decide +kernel
theorem dX12_tooMany_37 : decode cX12_tooMany 37 = .ok (.return_, 1) := by decide +kernel
set_option maxRecDepth 20000 in
theorem ggX12_takes_X12_advance : GoodIn wsX12_takes wsX12_advance := goodIn_r _ [8, 9, 10, 2, 11, 12, 3, 13, 14, 15, 16, 17, 7, 18, 19, 20, 21, 22, 23, 24, 25, 26, 27, 28, 29, 30, 31, 32, 33, 34, 35, 36, 37, 38, 39, 40, 41, 42, 43, 44, 45, 46, 47, 48, 49, 50, 51, 52, 53, 54, 55, 56, 57, 58, 59, 60, 61, 62, 63] (by decide +kernel) (by decide +kernel)
set_option maxRecDepth 20000 in
theorem gX12_takes_X12_advance : GoodIn wsX12_takes (wsV RX12 105 RX12 yX12_advance wsX12_advance) := goodIn_app (goodIn_of _ (by decide +kernel)) ggX12_takes_X12_advance
theorem dX12_takes_0 : decode cX12_takes 0 = .ok (.aload_n 0, 1) := by decide +kernel
theorem dX12_takes_1 : decode cX12_takes 1 = .ok (.getfield 101, 3) := by decide +kernel
theorem dX12_takes_4 : decode cX12_takes 4 = .ok (.ifCond .ne 19, 3) := by decide +kernel
theorem dX12_takes_7 : decode cX12_takes 7 = .ok (.aload_n 0, 1) := by decide +kernel
theorem dX12_takes_8 : decode cX12_takes 8 = .ok (.getfield 75, 3) := by decide +kernel
theorem dX12_takes_11 : decode cX12_takes 11 = .ok (.iconst 3, 1) := by decide +kernel
theorem dX12_takes_12 : decode cX12_takes 12 = .ok (.if_icmp .ne 11, 3) := by decide +kernel
theorem dX12_takes_15 : decode cX12_takes 15 = .ok (.aload_n 0, 1) := by decide +kernel
theorem dX12_takes_16 : decode cX12_takes 16 = .ok (.getfield 86, 3) := by decide +kernel
theorem dX12_takes_19 : decode cX12_takes 19 = .ok (.iload_n 1, 1) := by decide +kernel
theorem dX12_takes_20 : decode cX12_takes 20 = .ok (.if_icmp .eq 5, 3) := by decide +kernel
theorem dX12_takes_23 : decode cX12_takes 23 = .ok (.iconst 0, 1) := by decide +kernel
theorem dX12_takes_24 : decode cX12_takes 24 = .ok (.ireturn, 1) := by decide +kernel
theorem dX12_takes_25 : decode cX12_takes 25 = .ok (.aload_n 0, 1) := by decide +kernel
theorem dX12_takes_26 : decode cX12_takes 26 = .ok (.invokevirtual 105, 3) := by decide +kernel
theorem dX12_takes_29 : decode cX12_takes 29 = .ok (.iconst 1, 1) := by decide +kernel
theorem dX12_takes_30 : decode cX12_takes 30 = .ok (.ireturn, 1) := by decide +kernel
set_option maxRecDepth 20000 in
theorem ggX12_must_X12_advance : GoodIn wsX12_must wsX12_advance := goodIn_r _ [8, 9, 10, 2, 11, 12, 13, 14, 3, 15, 16, 17, 7, 18, 19, 20, 21, 22, 23, 24, 25, 26, 27, 28, 29, 30, 31, 32, 33, 34, 35, 36, 37, 38, 39, 40, 41, 42, 47, 48, 49, 50, 51, 52, 53, 54, 55, 56, 57, 58, 59, 60, 61, 62, 63, 64, 65, 66, 67] (by decide +kernel) (by decide +kernel)
set_option maxRecDepth 20000 in
theorem gX12_must_X12_advance : GoodIn wsX12_must (wsV RX12 105 RX12 yX12_advance wsX12_advance) := goodIn_app (goodIn_of _ (by decide +kernel)) ggX12_must_X12_advance
set_option maxRecDepth 20000 in
theorem ggX12_must_X12_stops : GoodIn wsX12_must wsX12_stops := goodIn_r _ [46, 1, 20, 10, 47, 48, 49, 50, 51, 52, 53, 54, 55, 56, 57, 58, 59, 60, 61, 62, 63, 64, 65, 66, 67] (by decide +kernel) (by decide +kernel)
set_option maxRecDepth 20000 in
theorem gX12_must_X12_stops : GoodIn wsX12_must (wsV RX12 108 RX12 yX12_stops wsX12_stops) := goodIn_app (goodIn_of _ (by decide +kernel)) ggX12_must_X12_stops
theorem dX12_must_0 : decode cX12_must 0 = .ok (.aload_n 0, 1) := by decide +kernel
theorem dX12_must_1 : decode cX12_must 1 = .ok (.getfield 101, 3) := by decide +kernel
theorem dX12_must_4 : decode cX12_must 4 = .ok (.ifCond .ne 26, 3) := by decide +kernel
theorem dX12_must_7 : decode cX12_must 7 = .ok (.aload_n 0, 1) := by decide +kernel
theorem dX12_must_8 : decode cX12_must 8 = .ok (.getfield 75, 3) := by decide +kernel
theorem dX12_must_11 : decode cX12_must 11 = .ok (.iconst 2, 1) := by decide +kernel
theorem dX12_must_12 : decode cX12_must 12 = .ok (.if_icmp .ne 18, 3) := by decide +kernel
theorem dX12_must_15 : decode cX12_must 15 = .ok (.aload_n 0, 1) := by decide +kernel
theorem dX12_must_16 : decode cX12_must 16 = .ok (.getfield 95, 3) := by decide +kernel
theorem dX12_must_19 : decode cX12_must 19 = .ok (.iload_n 1, 1) := by decide +kernel
theorem dX12_must_20 : decode cX12_must 20 = .ok (.if_icmp .ne 10, 3) := by decide +kernel
theorem dX12_must_23 : decode cX12_must 23 = .ok (.aload_n 0, 1) := by decide +kernel
theorem dX12_must_24 : decode cX12_must 24 = .ok (.invokevirtual 105, 3) := by decide +kernel
theorem dX12_must_27 : decode cX12_must 27 = .ok (.goto 7, 3) := by decide +kernel
theorem dX12_must_30 : decode cX12_must 30 = .ok (.aload_n 0, 1) := by decide +kernel
theorem dX12_must_31 : decode cX12_must 31 = .ok (.invokevirtual 108, 3) := by decide +kernel
theorem dX12_must_34 : decode cX12_must 34 = .ok (.return_, 1) := by decide +kernel
set_option maxRecDepth 20000 in
theorem ggX12_numbered_X12_advance : GoodIn wsX12_numbered wsX12_advance := goodIn_r _ [8, 9, 10, 3, 11, 12, 13, 1, 14, 15, 16, 17, 7, 18, 19, 20, 21, 22, 23, 24, 25, 26, 27, 28, 29, 30, 31, 32, 33, 34, 35, 36, 37, 38, 39, 40, 41, 42, 47, 48, 49, 50, 51, 52, 53, 54, 55, 56, 57, 58, 59, 60, 61, 62, 63, 64, 65, 66, 67] (by decide +kernel) (by decide +kernel)
set_option maxRecDepth 20000 in
theorem gX12_numbered_X12_advance : GoodIn wsX12_numbered (wsV RX12 105 RX12 yX12_advance wsX12_advance) := goodIn_app (goodIn_of _ (by decide +kernel)) ggX12_numbered_X12_advance
set_option maxRecDepth 20000 in
theorem ggX12_numbered_X12_stops : GoodIn wsX12_numbered wsX12_stops := goodIn_r _ [46, 2, 20, 10, 47, 48, 49, 50, 51, 52, 53, 54, 55, 56, 57, 58, 59, 60, 61, 62, 63, 64, 65, 66, 67] (by decide +kernel) (by decide +kernel)
set_option maxRecDepth 20000 in
theorem gX12_numbered_X12_stops : GoodIn wsX12_numbered (wsV RX12 108 RX12 yX12_stops wsX12_stops) := goodIn_app (goodIn_of _ (by decide +kernel)) ggX12_numbered_X12_stops
theorem dX12_numbered_0 : decode cX12_numbered 0 = .ok (.aload_n 0, 1) := by decide +kernel
theorem dX12_numbered_1 : decode cX12_numbered 1 = .ok (.getfield 92, 3) := by decide +kernel
theorem dX12_numbered_4 : decode cX12_numbered 4 = .ok (.istore_n 1, 1) := by decide +kernel
theorem dX12_numbered_5 : decode cX12_numbered 5 = .ok (.aload_n 0, 1) := by decide +kernel
theorem dX12_numbered_6 : decode cX12_numbered 6 = .ok (.getfield 101, 3) := by decide +kernel
theorem dX12_numbered_9 : decode cX12_numbered 9 = .ok (.ifCond .ne 18, 3) := by decide +kernel
theorem dX12_numbered_12 : decode cX12_numbered 12 = .ok (.aload_n 0, 1) := by decide +kernel
theorem dX12_numbered_13 : decode cX12_numbered 13 = .ok (.getfield 75, 3) := by decide +kernel
theorem dX12_numbered_16 : decode cX12_numbered 16 = .ok (.iconst 1, 1) := by decide +kernel
theorem dX12_numbered_17 : decode cX12_numbered 17 = .ok (.if_icmp .ne 10, 3) := by decide +kernel
theorem dX12_numbered_20 : decode cX12_numbered 20 = .ok (.aload_n 0, 1) := by decide +kernel
theorem dX12_numbered_21 : decode cX12_numbered 21 = .ok (.invokevirtual 105, 3) := by decide +kernel
theorem dX12_numbered_24 : decode cX12_numbered 24 = .ok (.goto 7, 3) := by decide +kernel
theorem dX12_numbered_27 : decode cX12_numbered 27 = .ok (.aload_n 0, 1) := by decide +kernel
theorem dX12_numbered_28 : decode cX12_numbered 28 = .ok (.invokevirtual 108, 3) := by decide +kernel
theorem dX12_numbered_31 : decode cX12_numbered 31 = .ok (.iload_n 1, 1) := by decide +kernel
theorem dX12_numbered_32 : decode cX12_numbered 32 = .ok (.ireturn, 1) := by decide +kernel
set_option maxRecDepth 20000 in
theorem ggX12_aTest_X12_takes : GoodIn wsX12_aTest wsX12_takes := goodIn_r _ [10, 3, 4, 2, 11, 12, 13, 9, 14, 15, 16, 17, 18, 19, 5, 20, 21, 22, 23, 24, 25, 26, 27, 28, 29, 30, 31, 32, 33, 34, 35, 36, 37, 38, 39, 40, 41, 42, 43, 44, 45, 46, 47, 59, 60, 61, 62, 63, 64, 65, 66, 67, 68, 69, 70, 71, 72, 73, 74, 75, 76, 77, 78, 79] (by decide +kernel) (by decide +kernel)
set_option maxRecDepth 20000 in
theorem gX12_aTest_X12_takes : GoodIn wsX12_aTest (wsV RX12 111 RX12 yX12_takes wsX12_takes) := goodIn_app (goodIn_of _ (by decide +kernel)) ggX12_aTest_X12_takes
set_option maxRecDepth 20000 in
theorem ggX12_aTest_X12_isIn : GoodIn wsX12_aTest wsX12_isIn := goodIn_r _ [50] (by decide +kernel) (by decide +kernel)
set_option maxRecDepth 20000 in
theorem gX12_aTest_X12_isIn : GoodIn wsX12_aTest (va_wsS RX12 114 yX12_isIn wsX12_isIn) := goodIn_app (goodIn_of _ (by decide +kernel)) ggX12_aTest_X12_isIn
set_option maxRecDepth 20000 in
theorem ggX12_aTest_X12_stops : GoodIn wsX12_aTest wsX12_stops := goodIn_r _ [54, 3, 25, 16, 59, 60, 61, 62, 63, 64, 65, 66, 67, 68, 69, 70, 71, 72, 73, 74, 75, 76, 77, 78, 79] (by decide +kernel) (by decide +kernel)
set_option maxRecDepth 20000 in
theorem gX12_aTest_X12_stops : GoodIn wsX12_aTest (wsV RX12 108 RX12 yX12_stops wsX12_stops) := goodIn_app (goodIn_of _ (by decide +kernel)) ggX12_aTest_X12_stops
set_option maxRecDepth 20000 in
theorem ggX12_aTest_X12_advance : GoodIn wsX12_aTest wsX12_advance := goodIn_r _ [14, 15, 16, 4, 17, 18, 2, 19, 5, 20, 21, 22, 9, 23, 24, 25, 26, 27, 28, 29, 30, 31, 32, 33, 34, 35, 36, 37, 38, 39, 40, 41, 42, 43, 44, 45, 46, 47, 59, 60, 61, 62, 63, 64, 65, 66, 67, 68, 69, 70, 71, 72, 73, 74, 75, 76, 77, 78, 79] (by decide +kernel) (by decide +kernel)
set_option maxRecDepth 20000 in
theorem gX12_aTest_X12_advance : GoodIn wsX12_aTest (wsV RX12 105 RX12 yX12_advance wsX12_advance) := goodIn_app (goodIn_of _ (by decide +kernel)) ggX12_aTest_X12_advance
set_option maxRecDepth 20000 in
theorem ggX12_aTest_X12_numbered : GoodIn wsX12_aTest wsX12_numbered := goodIn_r _ [58, 19, 3, 4, 11, 12, 13, 9, 14, 15, 16, 17, 18, 2, 5, 20, 21, 22, 23, 24, 25, 26, 27, 28, 29, 30, 31, 32, 33, 34, 35, 36, 37, 38, 39, 40, 41, 42, 43, 44, 45, 46, 47, 51, 52, 53, 54, 59, 60, 61, 62, 63, 64, 65, 66, 67, 68, 69, 70, 71, 72, 73, 74, 75, 76, 77, 78, 79] (by decide +kernel) (by decide +kernel)
set_option maxRecDepth 20000 in
theorem gX12_aTest_X12_numbered : GoodIn wsX12_aTest (wsV RX12 118 RX12 yX12_numbered wsX12_numbered) := goodIn_app (goodIn_of _ (by decide +kernel)) ggX12_aTest_X12_numbered
theorem dX12_aTest_0 : decode cX12_aTest 0 = .ok (.aload_n 0, 1) := by decide +kernel
theorem dX12_aTest_1 : decode cX12_aTest 1 = .ok (.getfield 20, 3) := by decide +kernel
theorem dX12_aTest_4 : decode cX12_aTest 4 = .ok (.iconst 0, 1) := by decide +kernel
theorem dX12_aTest_5 : decode cX12_aTest 5 = .ok (.aload_n 0, 1) := by decide +kernel
theorem dX12_aTest_6 : decode cX12_aTest 6 = .ok (.bipush 32, 2) := by decide +kernel
theorem dX12_aTest_8 : decode cX12_aTest 8 = .ok (.invokevirtual 111, 3) := by decide +kernel
theorem dX12_aTest_11 : decode cX12_aTest 11 = .ok (.ifCond .eq 7, 3) := by decide +kernel
theorem dX12_aTest_14 : decode cX12_aTest 14 = .ok (.iconst 1, 1) := by decide +kernel
theorem dX12_aTest_15 : decode cX12_aTest 15 = .ok (.goto 4, 3) := by decide +kernel
theorem dX12_aTest_18 : decode cX12_aTest 18 = .ok (.iconst 0, 1) := by decide +kernel
theorem dX12_aTest_19 : decode cX12_aTest 19 = .ok (.iastore, 1) := by decide +kernel
theorem dX12_aTest_20 : decode cX12_aTest 20 = .ok (.aload_n 0, 1) := by decide +kernel
theorem dX12_aTest_21 : decode cX12_aTest 21 = .ok (.getfield 20, 3) := by decide +kernel
theorem dX12_aTest_24 : decode cX12_aTest 24 = .ok (.iconst 1, 1) := by decide +kernel
theorem dX12_aTest_25 : decode cX12_aTest 25 = .ok (.aload_n 0, 1) := by decide +kernel
theorem dX12_aTest_26 : decode cX12_aTest 26 = .ok (.getfield 86, 3) := by decide +kernel
theorem dX12_aTest_29 : decode cX12_aTest 29 = .ok (.iastore, 1) := by decide +kernel
theorem dX12_aTest_30 : decode cX12_aTest 30 = .ok (.aload_n 0, 1) := by decide +kernel
theorem dX12_aTest_31 : decode cX12_aTest 31 = .ok (.getfield 20, 3) := by decide +kernel
theorem dX12_aTest_34 : decode cX12_aTest 34 = .ok (.iconst 2, 1) := by decide +kernel
theorem dX12_aTest_35 : decode cX12_aTest 35 = .ok (.bipush 61, 2) := by decide +kernel
theorem dX12_aTest_37 : decode cX12_aTest 37 = .ok (.iastore, 1) := by decide +kernel
theorem dX12_aTest_38 : decode cX12_aTest 38 = .ok (.aload_n 0, 1) := by decide +kernel
theorem dX12_aTest_39 : decode cX12_aTest 39 = .ok (.getfield 20, 3) := by decide +kernel
theorem dX12_aTest_42 : decode cX12_aTest 42 = .ok (.iconst 3, 1) := by decide +kernel
theorem dX12_aTest_43 : decode cX12_aTest 43 = .ok (.iconst 1, 1) := by decide +kernel
theorem dX12_aTest_44 : decode cX12_aTest 44 = .ok (.iastore, 1) := by decide +kernel
theorem dX12_aTest_45 : decode cX12_aTest 45 = .ok (.aload_n 0, 1) := by decide +kernel
theorem dX12_aTest_46 : decode cX12_aTest 46 = .ok (.getfield 101, 3) := by decide +kernel
theorem dX12_aTest_49 : decode cX12_aTest 49 = .ok (.ifCond .ne 23, 3) := by decide +kernel
theorem dX12_aTest_52 : decode cX12_aTest 52 = .ok (.aload_n 0, 1) := by decide +kernel
theorem dX12_aTest_53 : decode cX12_aTest 53 = .ok (.getfield 75, 3) := by decide +kernel
theorem dX12_aTest_56 : decode cX12_aTest 56 = .ok (.iconst 3, 1) := by decide +kernel
theorem dX12_aTest_57 : decode cX12_aTest 57 = .ok (.if_icmp .ne 15, 3) := by decide +kernel
theorem dX12_aTest_60 : decode cX12_aTest 60 = .ok (.aload_n 0, 1) := by decide +kernel
theorem dX12_aTest_61 : decode cX12_aTest 61 = .ok (.getfield 86, 3) := by decide +kernel
theorem dX12_aTest_64 : decode cX12_aTest 64 = .ok (.iconst 1, 1) := by decide +kernel
theorem dX12_aTest_65 : decode cX12_aTest 65 = .ok (.iconst 5, 1) := by decide +kernel
theorem dX12_aTest_66 : decode cX12_aTest 66 = .ok (.invokestatic 114, 3) := by decide +kernel
theorem dX12_aTest_69 : decode cX12_aTest 69 = .ok (.ifCond .ne 8, 3) := by decide +kernel
theorem dX12_aTest_72 : decode cX12_aTest 72 = .ok (.aload_n 0, 1) := by decide +kernel
theorem dX12_aTest_73 : decode cX12_aTest 73 = .ok (.invokevirtual 108, 3) := by decide +kernel
theorem dX12_aTest_76 : decode cX12_aTest 76 = .ok (.return_, 1) := by decide +kernel
theorem dX12_aTest_77 : decode cX12_aTest 77 = .ok (.aload_n 0, 1) := by decide +kernel
theorem dX12_aTest_78 : decode cX12_aTest 78 = .ok (.invokevirtual 105, 3) := by decide +kernel
theorem dX12_aTest_81 : decode cX12_aTest 81 = .ok (.aload_n 0, 1) := by decide +kernel
theorem dX12_aTest_82 : decode cX12_aTest 82 = .ok (.getfield 20, 3) := by decide +kernel
theorem dX12_aTest_85 : decode cX12_aTest 85 = .ok (.iconst 1, 1) := by decide +kernel
theorem dX12_aTest_86 : decode cX12_aTest 86 = .ok (.iaload, 1) := by decide +kernel
theorem dX12_aTest_87 : decode cX12_aTest 87 = .ok (.iconst 1, 1) := by decide +kernel
theorem dX12_aTest_88 : decode cX12_aTest 88 = .ok (.if_icmp .ne 4, 3) := by decide +kernel
theorem dX12_aTest_91 : decode cX12_aTest 91 = .ok (.return_, 1) := by decide +kernel
theorem dX12_aTest_92 : decode cX12_aTest 92 = .ok (.aload_n 0, 1) := by decide +kernel
theorem dX12_aTest_93 : decode cX12_aTest 93 = .ok (.getfield 20, 3) := by decide +kernel
theorem dX12_aTest_96 : decode cX12_aTest 96 = .ok (.iconst 2, 1) := by decide +kernel
theorem dX12_aTest_97 : decode cX12_aTest 97 = .ok (.aload_n 0, 1) := by decide +kernel
theorem dX12_aTest_98 : decode cX12_aTest 98 = .ok (.getfield 95, 3) := by decide +kernel
theorem dX12_aTest_101 : decode cX12_aTest 101 = .ok (.iastore, 1) := by decide +kernel
theorem dX12_aTest_102 : decode cX12_aTest 102 = .ok (.aload_n 0, 1) := by decide +kernel
theorem dX12_aTest_103 : decode cX12_aTest 103 = .ok (.getfield 75, 3) := by decide +kernel
theorem dX12_aTest_106 : decode cX12_aTest 106 = .ok (.iconst 2, 1) := by decide +kernel
theorem dX12_aTest_107 : decode cX12_aTest 107 = .ok (.if_icmp .ne 21, 3) := by decide +kernel
theorem dX12_aTest_110 : decode cX12_aTest 110 = .ok (.aload_n 0, 1) := by decide +kernel
theorem dX12_aTest_111 : decode cX12_aTest 111 = .ok (.getfield 95, 3) := by decide +kernel
theorem dX12_aTest_114 : decode cX12_aTest 114 = .ok (.bipush 58, 2) := by decide +kernel
theorem dX12_aTest_116 : decode cX12_aTest 116 = .ok (.if_icmp .eq 12, 3) := by decide +kernel
theorem dX12_aTest_119 : decode cX12_aTest 119 = .ok (.aload_n 0, 1) := by decide +kernel
theorem dX12_aTest_120 : decode cX12_aTest 120 = .ok (.getfield 95, 3) := by decide +kernel
theorem dX12_aTest_123 : decode cX12_aTest 123 = .ok (.bipush 59, 2) := by decide +kernel
theorem dX12_aTest_125 : decode cX12_aTest 125 = .ok (.if_icmp .ne 8, 3) := by decide +kernel
theorem dX12_aTest_128 : decode cX12_aTest 128 = .ok (.aload_n 0, 1) := by decide +kernel
theorem dX12_aTest_129 : decode cX12_aTest 129 = .ok (.invokevirtual 108, 3) := by decide +kernel
theorem dX12_aTest_132 : decode cX12_aTest 132 = .ok (.return_, 1) := by decide +kernel
theorem dX12_aTest_133 : decode cX12_aTest 133 = .ok (.aload_n 0, 1) := by decide +kernel
theorem dX12_aTest_134 : decode cX12_aTest 134 = .ok (.invokevirtual 105, 3) := by decide +kernel
theorem dX12_aTest_137 : decode cX12_aTest 137 = .ok (.aload_n 0, 1) := by decide +kernel
theorem dX12_aTest_138 : decode cX12_aTest 138 = .ok (.getfield 20, 3) := by decide +kernel
theorem dX12_aTest_141 : decode cX12_aTest 141 = .ok (.iconst 3, 1) := by decide +kernel
theorem dX12_aTest_142 : decode cX12_aTest 142 = .ok (.aload_n 0, 1) := by decide +kernel
theorem dX12_aTest_143 : decode cX12_aTest 143 = .ok (.invokevirtual 118, 3) := by decide +kernel
theorem dX12_aTest_146 : decode cX12_aTest 146 = .ok (.iastore, 1) := by decide +kernel
theorem dX12_aTest_147 : decode cX12_aTest 147 = .ok (.return_, 1) := by decide +kernel
theorem dX12_puts_0 : decode cX12_puts 0 = .ok (.aload_n 0, 1) := by decide +kernel
theorem dX12_puts_1 : decode cX12_puts 1 = .ok (.getfield 122, 3) := by decide +kernel
theorem dX12_puts_4 : decode cX12_puts 4 = .ok (.bipush 16, 2) := by decide +kernel
theorem dX12_puts_6 : decode cX12_puts 6 = .ok (.if_icmp .ge 18, 3) := by decide +kernel
theorem dX12_puts_9 : decode cX12_puts 9 = .ok (.aload_n 0, 1) := by decide +kernel
theorem dX12_puts_10 : decode cX12_puts 10 = .ok (.getfield 17, 3) := by decide +kernel
theorem dX12_puts_13 : decode cX12_puts 13 = .ok (.bipush 19, 2) := by decide +kernel
theorem dX12_puts_15 : decode cX12_puts 15 = .ok (.aload_n 0, 1) := by decide +kernel
theorem dX12_puts_16 : decode cX12_puts 16 = .ok (.getfield 122, 3) := by decide +kernel
theorem dX12_puts_19 : decode cX12_puts 19 = .ok (.imul, 1) := by decide +kernel
theorem dX12_puts_20 : decode cX12_puts 20 = .ok (.iload_n 1, 1) := by decide +kernel
theorem dX12_puts_21 : decode cX12_puts 21 = .ok (.iadd, 1) := by decide +kernel
theorem dX12_puts_22 : decode cX12_puts 22 = .ok (.iload_n 2, 1) := by decide +kernel
theorem dX12_puts_23 : decode cX12_puts 23 = .ok (.iastore, 1) := by decide +kernel
theorem dX12_puts_24 : decode cX12_puts 24 = .ok (.return_, 1) := by decide +kernel
set_option maxRecDepth 20000 in
theorem ggX12_aLine_X12_tooMany : GoodIn wsX12_aLine wsX12_tooMany := goodIn_r _ [10, 3, 11, 12, 77, 78, 79, 80, 81, 82, 83, 84, 85, 86, 87, 88, 89, 90, 91, 92, 93, 94, 95, 96, 97] (by decide +kernel) (by decide +kernel)
set_option maxRecDepth 20000 in
theorem gX12_aLine_X12_tooMany : GoodIn wsX12_aLine (wsV RX12 125 RX12 yX12_tooMany wsX12_tooMany) := goodIn_app (goodIn_of _ (by decide +kernel)) ggX12_aLine_X12_tooMany
set_option maxRecDepth 20000 in
theorem ggX12_aLine_X12_takes : GoodIn wsX12_aLine wsX12_takes := goodIn_r _ [16, 3, 4, 5, 17, 18, 19, 9, 20, 21, 12, 22, 23, 24, 25, 26, 27, 28, 29, 30, 11, 31, 32, 33, 34, 35, 36, 37, 38, 39, 40, 41, 42, 43, 44, 45, 46, 47, 48, 49, 50, 51, 52, 77, 78, 79, 80, 81, 82, 83, 84, 85, 86, 87, 88, 89, 90, 91, 92, 93, 94, 95, 96, 97] (by decide +kernel) (by decide +kernel)
set_option maxRecDepth 20000 in
theorem gX12_aLine_X12_takes : GoodIn wsX12_aLine (wsV RX12 111 RX12 yX12_takes wsX12_takes) := goodIn_app (goodIn_of _ (by decide +kernel)) ggX12_aLine_X12_takes
set_option maxRecDepth 20000 in
theorem ggX12_aLine_X12_aTest : GoodIn wsX12_aLine wsX12_aTest := goodIn_r _ [56, 2, 5, 3, 4, 25, 13, 14, 15, 9, 16, 17, 18, 19, 20, 21, 12, 22, 23, 24, 26, 27, 28, 29, 30, 11, 31, 32, 33, 34, 35, 36, 37, 38, 39, 40, 41, 42, 43, 44, 45, 46, 47, 48, 49, 50, 51, 52, 57, 58, 59, 60, 61, 62, 63, 64, 65, 66, 67, 77, 78, 79, 80, 81, 82, 83, 84, 85, 86, 87, 88, 89, 90, 91, 92, 93, 94, 95, 96, 97] (by decide +kernel) (by decide +kernel)
set_option maxRecDepth 20000 in
theorem gX12_aLine_X12_aTest : GoodIn wsX12_aLine (wsV RX12 128 RX12 yX12_aTest wsX12_aTest) := goodIn_app (goodIn_of _ (by decide +kernel)) ggX12_aLine_X12_aTest
set_option maxRecDepth 20000 in
theorem ggX12_aLine_X12_puts : GoodIn wsX12_aLine wsX12_puts := goodIn_r _ [71, 1, 72, 77, 78, 79, 80, 81, 82, 83, 84, 85, 86, 87, 88, 89, 90, 91, 92, 93, 94, 95, 96, 97] (by decide +kernel) (by decide +kernel)
set_option maxRecDepth 20000 in
theorem gX12_aLine_X12_puts : GoodIn wsX12_aLine (wsV RX12 131 RX12 yX12_puts wsX12_puts) := goodIn_app (goodIn_of _ (by decide +kernel)) ggX12_aLine_X12_puts
set_option maxRecDepth 20000 in
theorem ggX12_aLine_X12_must : GoodIn wsX12_aLine wsX12_must := goodIn_r _ [76, 3, 4, 25, 17, 18, 19, 9, 20, 21, 12, 22, 23, 5, 24, 26, 27, 28, 29, 30, 11, 31, 32, 33, 34, 35, 36, 37, 38, 39, 40, 41, 42, 43, 44, 45, 46, 47, 48, 49, 50, 51, 52, 60, 61, 62, 63, 77, 78, 79, 80, 81, 82, 83, 84, 85, 86, 87, 88, 89, 90, 91, 92, 93, 94, 95, 96, 97] (by decide +kernel) (by decide +kernel)
set_option maxRecDepth 20000 in
theorem gX12_aLine_X12_must : GoodIn wsX12_aLine (wsV RX12 135 RX12 yX12_must wsX12_must) := goodIn_app (goodIn_of _ (by decide +kernel)) ggX12_aLine_X12_must
set_option maxRecDepth 20000 in
theorem ggX12_aLine_X12_isIn : GoodIn wsX12_aLine wsX12_isIn := goodIn_r _ [59] (by decide +kernel) (by decide +kernel)
set_option maxRecDepth 20000 in
theorem gX12_aLine_X12_isIn : GoodIn wsX12_aLine (va_wsS RX12 114 yX12_isIn wsX12_isIn) := goodIn_app (goodIn_of _ (by decide +kernel)) ggX12_aLine_X12_isIn
set_option maxRecDepth 20000 in
theorem ggX12_aLine_X12_stops : GoodIn wsX12_aLine wsX12_stops := goodIn_r _ [63, 3, 11, 12, 77, 78, 79, 80, 81, 82, 83, 84, 85, 86, 87, 88, 89, 90, 91, 92, 93, 94, 95, 96, 97] (by decide +kernel) (by decide +kernel)
set_option maxRecDepth 20000 in
theorem gX12_aLine_X12_stops : GoodIn wsX12_aLine (wsV RX12 108 RX12 yX12_stops wsX12_stops) := goodIn_app (goodIn_of _ (by decide +kernel)) ggX12_aLine_X12_stops
set_option maxRecDepth 20000 in
theorem ggX12_aLine_X12_advance : GoodIn wsX12_aLine wsX12_advance := goodIn_r _ [20, 21, 12, 4, 22, 23, 5, 24, 25, 26, 27, 28, 9, 29, 30, 11, 31, 32, 33, 34, 35, 36, 37, 38, 39, 40, 41, 42, 43, 44, 45, 46, 47, 48, 49, 50, 51, 52, 77, 78, 79, 80, 81, 82, 83, 84, 85, 86, 87, 88, 89, 90, 91, 92, 93, 94, 95, 96, 97] (by decide +kernel) (by decide +kernel)
set_option maxRecDepth 20000 in
theorem gX12_aLine_X12_advance : GoodIn wsX12_aLine (wsV RX12 105 RX12 yX12_advance wsX12_advance) := goodIn_app (goodIn_of _ (by decide +kernel)) ggX12_aLine_X12_advance
set_option maxRecDepth 20000 in
theorem ggX12_aLine_X12_numbered : GoodIn wsX12_aLine wsX12_numbered := goodIn_r _ [67, 24, 3, 4, 17, 18, 19, 9, 20, 21, 12, 22, 23, 5, 25, 26, 27, 28, 29, 30, 11, 31, 32, 33, 34, 35, 36, 37, 38, 39, 40, 41, 42, 43, 44, 45, 46, 47, 48, 49, 50, 51, 52, 60, 61, 62, 63, 77, 78, 79, 80, 81, 82, 83, 84, 85, 86, 87, 88, 89, 90, 91, 92, 93, 94, 95, 96, 97] (by decide +kernel) (by decide +kernel)
set_option maxRecDepth 20000 in
theorem gX12_aLine_X12_numbered : GoodIn wsX12_aLine (wsV RX12 118 RX12 yX12_numbered wsX12_numbered) := goodIn_app (goodIn_of _ (by decide +kernel)) ggX12_aLine_X12_numbered
theorem dX12_aLine_0 : decode cX12_aLine 0 = .ok (.aload_n 0, 1) := by decide +kernel
theorem dX12_aLine_1 : decode cX12_aLine 1 = .ok (.getfield 122, 3) := by decide +kernel
theorem dX12_aLine_4 : decode cX12_aLine 4 = .ok (.bipush 16, 2) := by decide +kernel
theorem dX12_aLine_6 : decode cX12_aLine 6 = .ok (.if_icmp .lt 7, 3) := by decide +kernel
theorem dX12_aLine_9 : decode cX12_aLine 9 = .ok (.aload_n 0, 1) := by decide +kernel
theorem dX12_aLine_10 : decode cX12_aLine 10 = .ok (.invokevirtual 125, 3) := by decide +kernel
theorem dX12_aLine_13 : decode cX12_aLine 13 = .ok (.iconst 0, 1) := by decide +kernel
theorem dX12_aLine_14 : decode cX12_aLine 14 = .ok (.istore_n 1, 1) := by decide +kernel
theorem dX12_aLine_15 : decode cX12_aLine 15 = .ok (.aload_n 0, 1) := by decide +kernel
theorem dX12_aLine_16 : decode cX12_aLine 16 = .ok (.bipush 30, 2) := by decide +kernel
theorem dX12_aLine_18 : decode cX12_aLine 18 = .ok (.invokevirtual 111, 3) := by decide +kernel
theorem dX12_aLine_21 : decode cX12_aLine 21 = .ok (.ifCond .eq 76, 3) := by decide +kernel
theorem dX12_aLine_24 : decode cX12_aLine 24 = .ok (.iconst 1, 1) := by decide +kernel
theorem dX12_aLine_25 : decode cX12_aLine 25 = .ok (.istore_n 2, 1) := by decide +kernel
theorem dX12_aLine_26 : decode cX12_aLine 26 = .ok (.iload_n 2, 1) := by decide +kernel
theorem dX12_aLine_27 : decode cX12_aLine 27 = .ok (.ifCond .eq 64, 3) := by decide +kernel
theorem dX12_aLine_30 : decode cX12_aLine 30 = .ok (.iload_n 1, 1) := by decide +kernel
theorem dX12_aLine_31 : decode cX12_aLine 31 = .ok (.iconst 3, 1) := by decide +kernel
theorem dX12_aLine_32 : decode cX12_aLine 32 = .ok (.if_icmp .le 7, 3) := by decide +kernel
theorem dX12_aLine_35 : decode cX12_aLine 35 = .ok (.aload_n 0, 1) := by decide +kernel
theorem dX12_aLine_36 : decode cX12_aLine 36 = .ok (.invokevirtual 125, 3) := by decide +kernel
theorem dX12_aLine_39 : decode cX12_aLine 39 = .ok (.aload_n 0, 1) := by decide +kernel
theorem dX12_aLine_40 : decode cX12_aLine 40 = .ok (.invokevirtual 128, 3) := by decide +kernel
theorem dX12_aLine_43 : decode cX12_aLine 43 = .ok (.iconst 0, 1) := by decide +kernel
theorem dX12_aLine_44 : decode cX12_aLine 44 = .ok (.istore_n 3, 1) := by decide +kernel
theorem dX12_aLine_45 : decode cX12_aLine 45 = .ok (.iload_n 3, 1) := by decide +kernel
theorem dX12_aLine_46 : decode cX12_aLine 46 = .ok (.iconst 4, 1) := by decide +kernel
theorem dX12_aLine_47 : decode cX12_aLine 47 = .ok (.if_icmp .ge 31, 3) := by decide +kernel
theorem dX12_aLine_50 : decode cX12_aLine 50 = .ok (.iload_n 1, 1) := by decide +kernel
theorem dX12_aLine_51 : decode cX12_aLine 51 = .ok (.iconst 4, 1) := by decide +kernel
theorem dX12_aLine_52 : decode cX12_aLine 52 = .ok (.if_icmp .ge 26, 3) := by decide +kernel
theorem dX12_aLine_55 : decode cX12_aLine 55 = .ok (.aload_n 0, 1) := by decide +kernel
theorem dX12_aLine_56 : decode cX12_aLine 56 = .ok (.iconst 1, 1) := by decide +kernel
theorem dX12_aLine_57 : decode cX12_aLine 57 = .ok (.iconst 4, 1) := by decide +kernel
theorem dX12_aLine_58 : decode cX12_aLine 58 = .ok (.iload_n 1, 1) := by decide +kernel
theorem dX12_aLine_59 : decode cX12_aLine 59 = .ok (.imul, 1) := by decide +kernel
theorem dX12_aLine_60 : decode cX12_aLine 60 = .ok (.iadd, 1) := by decide +kernel
theorem dX12_aLine_61 : decode cX12_aLine 61 = .ok (.iload_n 3, 1) := by decide +kernel
theorem dX12_aLine_62 : decode cX12_aLine 62 = .ok (.iadd, 1) := by decide +kernel
theorem dX12_aLine_63 : decode cX12_aLine 63 = .ok (.aload_n 0, 1) := by decide +kernel
theorem dX12_aLine_64 : decode cX12_aLine 64 = .ok (.getfield 20, 3) := by decide +kernel
theorem dX12_aLine_67 : decode cX12_aLine 67 = .ok (.iload_n 3, 1) := by decide +kernel
theorem dX12_aLine_68 : decode cX12_aLine 68 = .ok (.iaload, 1) := by decide +kernel
theorem dX12_aLine_69 : decode cX12_aLine 69 = .ok (.invokevirtual 131, 3) := by decide +kernel
theorem dX12_aLine_72 : decode cX12_aLine 72 = .ok (.iinc 3 1, 3) := by decide +kernel
theorem dX12_aLine_75 : decode cX12_aLine 75 = .ok (.goto (-30), 3) := by decide +kernel
theorem dX12_aLine_78 : decode cX12_aLine 78 = .ok (.iinc 1 1, 3) := by decide +kernel
theorem dX12_aLine_81 : decode cX12_aLine 81 = .ok (.aload_n 0, 1) := by decide +kernel
theorem dX12_aLine_82 : decode cX12_aLine 82 = .ok (.bipush 31, 2) := by decide +kernel
theorem dX12_aLine_84 : decode cX12_aLine 84 = .ok (.invokevirtual 111, 3) := by decide +kernel
theorem dX12_aLine_87 : decode cX12_aLine 87 = .ok (.istore_n 2, 1) := by decide +kernel
theorem dX12_aLine_88 : decode cX12_aLine 88 = .ok (.goto (-62), 3) := by decide +kernel
theorem dX12_aLine_91 : decode cX12_aLine 91 = .ok (.aload_n 0, 1) := by decide +kernel
theorem dX12_aLine_92 : decode cX12_aLine 92 = .ok (.bipush 58, 2) := by decide +kernel
theorem dX12_aLine_94 : decode cX12_aLine 94 = .ok (.invokevirtual 135, 3) := by decide +kernel
theorem dX12_aLine_97 : decode cX12_aLine 97 = .ok (.aload_n 0, 1) := by decide +kernel
theorem dX12_aLine_98 : decode cX12_aLine 98 = .ok (.getfield 101, 3) := by decide +kernel
theorem dX12_aLine_101 : decode cX12_aLine 101 = .ok (.ifCond .ne 25, 3) := by decide +kernel
theorem dX12_aLine_104 : decode cX12_aLine 104 = .ok (.aload_n 0, 1) := by decide +kernel
theorem dX12_aLine_105 : decode cX12_aLine 105 = .ok (.getfield 75, 3) := by decide +kernel
theorem dX12_aLine_108 : decode cX12_aLine 108 = .ok (.iconst 3, 1) := by decide +kernel
theorem dX12_aLine_109 : decode cX12_aLine 109 = .ok (.if_icmp .ne 17, 3) := by decide +kernel
theorem dX12_aLine_112 : decode cX12_aLine 112 = .ok (.aload_n 0, 1) := by decide +kernel
theorem dX12_aLine_113 : decode cX12_aLine 113 = .ok (.getfield 86, 3) := by decide +kernel
theorem dX12_aLine_116 : decode cX12_aLine 116 = .ok (.bipush 20, 2) := by decide +kernel
theorem dX12_aLine_118 : decode cX12_aLine 118 = .ok (.bipush 22, 2) := by decide +kernel
theorem dX12_aLine_120 : decode cX12_aLine 120 = .ok (.invokestatic 114, 3) := by decide +kernel
theorem dX12_aLine_123 : decode cX12_aLine 123 = .ok (.ifCond .ne 8, 3) := by decide +kernel
theorem dX12_aLine_126 : decode cX12_aLine 126 = .ok (.aload_n 0, 1) := by decide +kernel
theorem dX12_aLine_127 : decode cX12_aLine 127 = .ok (.invokevirtual 108, 3) := by decide +kernel
theorem dX12_aLine_130 : decode cX12_aLine 130 = .ok (.return_, 1) := by decide +kernel
theorem dX12_aLine_131 : decode cX12_aLine 131 = .ok (.aload_n 0, 1) := by decide +kernel
theorem dX12_aLine_132 : decode cX12_aLine 132 = .ok (.getfield 86, 3) := by decide +kernel
theorem dX12_aLine_135 : decode cX12_aLine 135 = .ok (.istore_n 2, 1) := by decide +kernel
theorem dX12_aLine_136 : decode cX12_aLine 136 = .ok (.aload_n 0, 1) := by decide +kernel
theorem dX12_aLine_137 : decode cX12_aLine 137 = .ok (.invokevirtual 105, 3) := by decide +kernel
theorem dX12_aLine_140 : decode cX12_aLine 140 = .ok (.iload_n 2, 1) := by decide +kernel
theorem dX12_aLine_141 : decode cX12_aLine 141 = .ok (.bipush 22, 2) := by decide +kernel
theorem dX12_aLine_143 : decode cX12_aLine 143 = .ok (.if_icmp .ne 7, 3) := by decide +kernel
theorem dX12_aLine_146 : decode cX12_aLine 146 = .ok (.iconst 0, 1) := by decide +kernel
theorem dX12_aLine_147 : decode cX12_aLine 147 = .ok (.goto 7, 3) := by decide +kernel
theorem dX12_aLine_150 : decode cX12_aLine 150 = .ok (.aload_n 0, 1) := by decide +kernel
theorem dX12_aLine_151 : decode cX12_aLine 151 = .ok (.invokevirtual 118, 3) := by decide +kernel
theorem dX12_aLine_154 : decode cX12_aLine 154 = .ok (.istore_n 3, 1) := by decide +kernel
theorem dX12_aLine_155 : decode cX12_aLine 155 = .ok (.aload_n 0, 1) := by decide +kernel
theorem dX12_aLine_156 : decode cX12_aLine 156 = .ok (.bipush 59, 2) := by decide +kernel
theorem dX12_aLine_158 : decode cX12_aLine 158 = .ok (.invokevirtual 135, 3) := by decide +kernel
theorem dX12_aLine_161 : decode cX12_aLine 161 = .ok (.aload_n 0, 1) := by decide +kernel
theorem dX12_aLine_162 : decode cX12_aLine 162 = .ok (.iconst 0, 1) := by decide +kernel
theorem dX12_aLine_163 : decode cX12_aLine 163 = .ok (.iload_n 1, 1) := by decide +kernel
theorem dX12_aLine_164 : decode cX12_aLine 164 = .ok (.invokevirtual 131, 3) := by decide +kernel
theorem dX12_aLine_167 : decode cX12_aLine 167 = .ok (.aload_n 0, 1) := by decide +kernel
theorem dX12_aLine_168 : decode cX12_aLine 168 = .ok (.bipush 17, 2) := by decide +kernel
theorem dX12_aLine_170 : decode cX12_aLine 170 = .ok (.iload_n 2, 1) := by decide +kernel
theorem dX12_aLine_171 : decode cX12_aLine 171 = .ok (.invokevirtual 131, 3) := by decide +kernel
theorem dX12_aLine_174 : decode cX12_aLine 174 = .ok (.aload_n 0, 1) := by decide +kernel
theorem dX12_aLine_175 : decode cX12_aLine 175 = .ok (.bipush 18, 2) := by decide +kernel
theorem dX12_aLine_177 : decode cX12_aLine 177 = .ok (.iload_n 3, 1) := by decide +kernel
theorem dX12_aLine_178 : decode cX12_aLine 178 = .ok (.invokevirtual 131, 3) := by decide +kernel
theorem dX12_aLine_181 : decode cX12_aLine 181 = .ok (.aload_n 0, 1) := by decide +kernel
theorem dX12_aLine_182 : decode cX12_aLine 182 = .ok (.dup, 1) := by decide +kernel
theorem dX12_aLine_183 : decode cX12_aLine 183 = .ok (.getfield 122, 3) := by decide +kernel
theorem dX12_aLine_186 : decode cX12_aLine 186 = .ok (.iconst 1, 1) := by decide +kernel
theorem dX12_aLine_187 : decode cX12_aLine 187 = .ok (.iadd, 1) := by decide +kernel
theorem dX12_aLine_188 : decode cX12_aLine 188 = .ok (.putfield 122, 3) := by decide +kernel
theorem dX12_aLine_191 : decode cX12_aLine 191 = .ok (.return_, 1) := by decide +kernel
set_option maxRecDepth 20000 in
theorem ggX12_decree_X12_advance : GoodIn wsX12_decree wsX12_advance := goodIn_r _ [12, 3, 13, 6, 14, 15, 16, 17, 18, 19, 20, 21, 11, 22, 2, 1, 23, 24, 25, 26, 27, 28, 29, 30, 31, 32, 33, 34, 35, 36, 37, 38, 39, 40, 41, 42, 43, 44, 81, 82, 83, 84, 85, 86, 87, 88, 89, 90, 91, 92, 93, 94, 95, 96, 97, 98, 99, 100, 101] (by decide +kernel) (by decide +kernel)
set_option maxRecDepth 20000 in
theorem gX12_decree_X12_advance : GoodIn wsX12_decree (wsV RX12 105 RX12 yX12_advance wsX12_advance) := goodIn_app (goodIn_of _ (by decide +kernel)) ggX12_decree_X12_advance
set_option maxRecDepth 20000 in
theorem ggX12_decree_X12_aLine : GoodIn wsX12_decree wsX12_aLine := goodIn_r _ [48, 5, 49, 4, 6, 16, 50, 51, 52, 11, 53, 1, 13, 54, 55, 56, 57, 8, 9, 10, 12, 3, 14, 15, 17, 18, 19, 20, 21, 22, 2, 23, 24, 25, 26, 27, 28, 29, 30, 31, 32, 33, 34, 35, 36, 37, 38, 39, 40, 41, 42, 43, 44, 58, 59, 60, 61, 62, 63, 64, 65, 66, 67, 68, 69, 70, 71, 72, 73, 74, 75, 76, 7, 77, 78, 79, 80, 81, 82, 83, 84, 85, 86, 87, 88, 89, 90, 91, 92, 93, 94, 95, 96, 97, 98, 99, 100, 101] (by decide +kernel) (by decide +kernel)
set_option maxRecDepth 20000 in
theorem gX12_decree_X12_aLine : GoodIn wsX12_decree (wsV RX12 139 RX12 yX12_aLine wsX12_aLine) := goodIn_app (goodIn_of _ (by decide +kernel)) ggX12_decree_X12_aLine
theorem dX12_decree_0 : decode cX12_decree 0 = .ok (.aload_n 0, 1) := by decide +kernel
theorem dX12_decree_1 : decode cX12_decree 1 = .ok (.aload_n 0, 1) := by decide +kernel
theorem dX12_decree_2 : decode cX12_decree 2 = .ok (.getfield 7, 3) := by decide +kernel
theorem dX12_decree_5 : decode cX12_decree 5 = .ok (.bipush 12, 2) := by decide +kernel
theorem dX12_decree_7 : decode cX12_decree 7 = .ok (.iaload, 1) := by decide +kernel
theorem dX12_decree_8 : decode cX12_decree 8 = .ok (.putfield 41, 3) := by decide +kernel
theorem dX12_decree_11 : decode cX12_decree 11 = .ok (.aload_n 0, 1) := by decide +kernel
theorem dX12_decree_12 : decode cX12_decree 12 = .ok (.getfield 7, 3) := by decide +kernel
theorem dX12_decree_15 : decode cX12_decree 15 = .ok (.bipush 12, 2) := by decide +kernel
theorem dX12_decree_17 : decode cX12_decree 17 = .ok (.iconst 0, 1) := by decide +kernel
theorem dX12_decree_18 : decode cX12_decree 18 = .ok (.iastore, 1) := by decide +kernel
theorem dX12_decree_19 : decode cX12_decree 19 = .ok (.aload_n 0, 1) := by decide +kernel
theorem dX12_decree_20 : decode cX12_decree 20 = .ok (.iconst 0, 1) := by decide +kernel
theorem dX12_decree_21 : decode cX12_decree 21 = .ok (.putfield 65, 3) := by decide +kernel
theorem dX12_decree_24 : decode cX12_decree 24 = .ok (.aload_n 0, 1) := by decide +kernel
theorem dX12_decree_25 : decode cX12_decree 25 = .ok (.getfield 7, 3) := by decide +kernel
theorem dX12_decree_28 : decode cX12_decree 28 = .ok (.bipush 13, 2) := by decide +kernel
theorem dX12_decree_30 : decode cX12_decree 30 = .ok (.iconst 0, 1) := by decide +kernel
theorem dX12_decree_31 : decode cX12_decree 31 = .ok (.iastore, 1) := by decide +kernel
theorem dX12_decree_32 : decode cX12_decree 32 = .ok (.aload_n 0, 1) := by decide +kernel
theorem dX12_decree_33 : decode cX12_decree 33 = .ok (.getfield 7, 3) := by decide +kernel
theorem dX12_decree_36 : decode cX12_decree 36 = .ok (.bipush 14, 2) := by decide +kernel
theorem dX12_decree_38 : decode cX12_decree 38 = .ok (.iconst (-1), 1) := by decide +kernel
theorem dX12_decree_39 : decode cX12_decree 39 = .ok (.iastore, 1) := by decide +kernel
theorem dX12_decree_40 : decode cX12_decree 40 = .ok (.aload_n 0, 1) := by decide +kernel
theorem dX12_decree_41 : decode cX12_decree 41 = .ok (.iconst 0, 1) := by decide +kernel
theorem dX12_decree_42 : decode cX12_decree 42 = .ok (.putfield 101, 3) := by decide +kernel
theorem dX12_decree_45 : decode cX12_decree 45 = .ok (.aload_n 0, 1) := by decide +kernel
theorem dX12_decree_46 : decode cX12_decree 46 = .ok (.iconst 0, 1) := by decide +kernel
theorem dX12_decree_47 : decode cX12_decree 47 = .ok (.putfield 122, 3) := by decide +kernel
theorem dX12_decree_50 : decode cX12_decree 50 = .ok (.aload_n 0, 1) := by decide +kernel
theorem dX12_decree_51 : decode cX12_decree 51 = .ok (.invokevirtual 105, 3) := by decide +kernel
theorem dX12_decree_54 : decode cX12_decree 54 = .ok (.aload_n 0, 1) := by decide +kernel
theorem dX12_decree_55 : decode cX12_decree 55 = .ok (.getfield 101, 3) := by decide +kernel
theorem dX12_decree_58 : decode cX12_decree 58 = .ok (.ifCond .ne 17, 3) := by decide +kernel
theorem dX12_decree_61 : decode cX12_decree 61 = .ok (.aload_n 0, 1) := by decide +kernel
theorem dX12_decree_62 : decode cX12_decree 62 = .ok (.getfield 75, 3) := by decide +kernel
theorem dX12_decree_65 : decode cX12_decree 65 = .ok (.ifCond .eq 10, 3) := by decide +kernel
theorem dX12_decree_68 : decode cX12_decree 68 = .ok (.aload_n 0, 1) := by decide +kernel
theorem dX12_decree_69 : decode cX12_decree 69 = .ok (.invokevirtual 139, 3) := by decide +kernel
theorem dX12_decree_72 : decode cX12_decree 72 = .ok (.goto (-18), 3) := by decide +kernel
theorem dX12_decree_75 : decode cX12_decree 75 = .ok (.aload_n 0, 1) := by decide +kernel
theorem dX12_decree_76 : decode cX12_decree 76 = .ok (.getfield 7, 3) := by decide +kernel
theorem dX12_decree_79 : decode cX12_decree 79 = .ok (.bipush 13, 2) := by decide +kernel
theorem dX12_decree_81 : decode cX12_decree 81 = .ok (.iaload, 1) := by decide +kernel
theorem dX12_decree_82 : decode cX12_decree 82 = .ok (.ifCond .eq 5, 3) := by decide +kernel
theorem dX12_decree_85 : decode cX12_decree 85 = .ok (.iconst (-1), 1) := by decide +kernel
theorem dX12_decree_86 : decode cX12_decree 86 = .ok (.ireturn, 1) := by decide +kernel
theorem dX12_decree_87 : decode cX12_decree 87 = .ok (.iconst 0, 1) := by decide +kernel
theorem dX12_decree_88 : decode cX12_decree 88 = .ok (.istore_n 1, 1) := by decide +kernel
theorem dX12_decree_89 : decode cX12_decree 89 = .ok (.iload_n 1, 1) := by decide +kernel
theorem dX12_decree_90 : decode cX12_decree 90 = .ok (.sipush 304, 3) := by decide +kernel
theorem dX12_decree_93 : decode cX12_decree 93 = .ok (.if_icmp .ge 25, 3) := by decide +kernel
theorem dX12_decree_96 : decode cX12_decree 96 = .ok (.aload_n 0, 1) := by decide +kernel
theorem dX12_decree_97 : decode cX12_decree 97 = .ok (.getfield 7, 3) := by decide +kernel
theorem dX12_decree_100 : decode cX12_decree 100 = .ok (.sipush 2080, 3) := by decide +kernel
theorem dX12_decree_103 : decode cX12_decree 103 = .ok (.iload_n 1, 1) := by decide +kernel
theorem dX12_decree_104 : decode cX12_decree 104 = .ok (.iadd, 1) := by decide +kernel
theorem dX12_decree_105 : decode cX12_decree 105 = .ok (.aload_n 0, 1) := by decide +kernel
theorem dX12_decree_106 : decode cX12_decree 106 = .ok (.getfield 17, 3) := by decide +kernel
theorem dX12_decree_109 : decode cX12_decree 109 = .ok (.iload_n 1, 1) := by decide +kernel
theorem dX12_decree_110 : decode cX12_decree 110 = .ok (.iaload, 1) := by decide +kernel
theorem dX12_decree_111 : decode cX12_decree 111 = .ok (.iastore, 1) := by decide +kernel
theorem dX12_decree_112 : decode cX12_decree 112 = .ok (.iinc 1 1, 3) := by decide +kernel
theorem dX12_decree_115 : decode cX12_decree 115 = .ok (.goto (-26), 3) := by decide +kernel
theorem dX12_decree_118 : decode cX12_decree 118 = .ok (.aload_n 0, 1) := by decide +kernel
theorem dX12_decree_119 : decode cX12_decree 119 = .ok (.getfield 7, 3) := by decide +kernel
theorem dX12_decree_122 : decode cX12_decree 122 = .ok (.bipush 7, 2) := by decide +kernel
theorem dX12_decree_124 : decode cX12_decree 124 = .ok (.aload_n 0, 1) := by decide +kernel
theorem dX12_decree_125 : decode cX12_decree 125 = .ok (.getfield 122, 3) := by decide +kernel
theorem dX12_decree_128 : decode cX12_decree 128 = .ok (.iastore, 1) := by decide +kernel
theorem dX12_decree_129 : decode cX12_decree 129 = .ok (.aload_n 0, 1) := by decide +kernel
theorem dX12_decree_130 : decode cX12_decree 130 = .ok (.getfield 122, 3) := by decide +kernel
theorem dX12_decree_133 : decode cX12_decree 133 = .ok (.ireturn, 1) := by decide +kernel
theorem dX12_fault_0 : decode cX12_fault 0 = .ok (.iload_n 1, 1) := by decide +kernel
theorem dX12_fault_1 : decode cX12_fault 1 = .ok (.ifCond .ne 13, 3) := by decide +kernel
theorem dX12_fault_4 : decode cX12_fault 4 = .ok (.aload_n 0, 1) := by decide +kernel
theorem dX12_fault_5 : decode cX12_fault 5 = .ok (.getfield 7, 3) := by decide +kernel
theorem dX12_fault_8 : decode cX12_fault 8 = .ok (.bipush 13, 2) := by decide +kernel
theorem dX12_fault_10 : decode cX12_fault 10 = .ok (.iaload, 1) := by decide +kernel
theorem dX12_fault_11 : decode cX12_fault 11 = .ok (.goto 19, 3) := by decide +kernel
theorem dX12_fault_14 : decode cX12_fault 14 = .ok (.iload_n 1, 1) := by decide +kernel
theorem dX12_fault_15 : decode cX12_fault 15 = .ok (.iconst 1, 1) := by decide +kernel
theorem dX12_fault_16 : decode cX12_fault 16 = .ok (.if_icmp .ne 13, 3) := by decide +kernel
theorem dX12_fault_19 : decode cX12_fault 19 = .ok (.aload_n 0, 1) := by decide +kernel
theorem dX12_fault_20 : decode cX12_fault 20 = .ok (.getfield 7, 3) := by decide +kernel
theorem dX12_fault_23 : decode cX12_fault 23 = .ok (.bipush 14, 2) := by decide +kernel
theorem dX12_fault_25 : decode cX12_fault 25 = .ok (.iaload, 1) := by decide +kernel
theorem dX12_fault_26 : decode cX12_fault 26 = .ok (.goto 4, 3) := by decide +kernel
theorem dX12_fault_29 : decode cX12_fault 29 = .ok (.iconst (-1), 1) := by decide +kernel
theorem dX12_fault_30 : decode cX12_fault 30 = .ok (.ireturn, 1) := by decide +kernel
set_option maxRecDepth 20000 in
theorem ggX12_isCitizen_X12_isIn : GoodIn wsX12_isCitizen wsX12_isIn := goodIn_r _ [5] (by decide +kernel) (by decide +kernel)
set_option maxRecDepth 20000 in
theorem gX12_isCitizen_X12_isIn : GoodIn wsX12_isCitizen (va_wsS RX12 114 yX12_isIn wsX12_isIn) := goodIn_app (goodIn_of _ (by decide +kernel)) ggX12_isCitizen_X12_isIn
theorem dX12_isCitizen_0 : decode cX12_isCitizen 0 = .ok (.iload_n 1, 1) := by decide +kernel
theorem dX12_isCitizen_1 : decode cX12_isCitizen 1 = .ok (.iconst 0, 1) := by decide +kernel
theorem dX12_isCitizen_2 : decode cX12_isCitizen 2 = .ok (.aload_n 0, 1) := by decide +kernel
theorem dX12_isCitizen_3 : decode cX12_isCitizen 3 = .ok (.getfield 7, 3) := by decide +kernel
theorem dX12_isCitizen_6 : decode cX12_isCitizen 6 = .ok (.iconst 3, 1) := by decide +kernel
theorem dX12_isCitizen_7 : decode cX12_isCitizen 7 = .ok (.iaload, 1) := by decide +kernel
theorem dX12_isCitizen_8 : decode cX12_isCitizen 8 = .ok (.iconst 1, 1) := by decide +kernel
theorem dX12_isCitizen_9 : decode cX12_isCitizen 9 = .ok (.isub, 1) := by decide +kernel
theorem dX12_isCitizen_10 : decode cX12_isCitizen 10 = .ok (.invokestatic 114, 3) := by decide +kernel
theorem dX12_isCitizen_13 : decode cX12_isCitizen 13 = .ok (.ireturn, 1) := by decide +kernel
theorem dX12_of_0 : decode cX12_of 0 = .ok (.aload_n 0, 1) := by decide +kernel
theorem dX12_of_1 : decode cX12_of 1 = .ok (.getfield 7, 3) := by decide +kernel
theorem dX12_of_4 : decode cX12_of 4 = .ok (.bipush 20, 2) := by decide +kernel
theorem dX12_of_6 : decode cX12_of 6 = .ok (.bipush 8, 2) := by decide +kernel
theorem dX12_of_8 : decode cX12_of 8 = .ok (.iload_n 1, 1) := by decide +kernel
theorem dX12_of_9 : decode cX12_of 9 = .ok (.imul, 1) := by decide +kernel
theorem dX12_of_10 : decode cX12_of 10 = .ok (.iadd, 1) := by decide +kernel
theorem dX12_of_11 : decode cX12_of 11 = .ok (.iload_n 2, 1) := by decide +kernel
theorem dX12_of_12 : decode cX12_of 12 = .ok (.iadd, 1) := by decide +kernel
theorem dX12_of_13 : decode cX12_of 13 = .ok (.iaload, 1) := by decide +kernel
theorem dX12_of_14 : decode cX12_of 14 = .ok (.ireturn, 1) := by decide +kernel
theorem dX12_adds_0 : decode cX12_adds 0 = .ok (.aload_n 0, 1) := by decide +kernel
theorem dX12_adds_1 : decode cX12_adds 1 = .ok (.getfield 7, 3) := by decide +kernel
theorem dX12_adds_4 : decode cX12_adds 4 = .ok (.bipush 20, 2) := by decide +kernel
theorem dX12_adds_6 : decode cX12_adds 6 = .ok (.bipush 8, 2) := by decide +kernel
theorem dX12_adds_8 : decode cX12_adds 8 = .ok (.iload_n 1, 1) := by decide +kernel
theorem dX12_adds_9 : decode cX12_adds 9 = .ok (.imul, 1) := by decide +kernel
theorem dX12_adds_10 : decode cX12_adds 10 = .ok (.iadd, 1) := by decide +kernel
theorem dX12_adds_11 : decode cX12_adds 11 = .ok (.iload_n 2, 1) := by decide +kernel
theorem dX12_adds_12 : decode cX12_adds 12 = .ok (.iadd, 1) := by decide +kernel
theorem dX12_adds_13 : decode cX12_adds 13 = .ok (.dup2, 1) := by decide +kernel
theorem dX12_adds_14 : decode cX12_adds 14 = .ok (.iaload, 1) := by decide +kernel
theorem dX12_adds_15 : decode cX12_adds 15 = .ok (.iload_n 3, 1) := by decide +kernel
theorem dX12_adds_16 : decode cX12_adds 16 = .ok (.iadd, 1) := by decide +kernel
theorem dX12_adds_17 : decode cX12_adds 17 = .ok (.iastore, 1) := by decide +kernel
theorem dX12_adds_18 : decode cX12_adds 18 = .ok (.return_, 1) := by decide +kernel
set_option maxRecDepth 20000 in
theorem ggX12_citizen_X12_isIn : GoodIn wsX12_citizen wsX12_isIn := goodIn_r _ [5] (by decide +kernel) (by decide +kernel)
set_option maxRecDepth 20000 in
theorem gX12_citizen_X12_isIn : GoodIn wsX12_citizen (va_wsS RX12 114 yX12_isIn wsX12_isIn) := goodIn_app (goodIn_of _ (by decide +kernel)) ggX12_citizen_X12_isIn
theorem dX12_citizen_0 : decode cX12_citizen 0 = .ok (.aload_n 0, 1) := by decide +kernel
theorem dX12_citizen_1 : decode cX12_citizen 1 = .ok (.getfield 7, 3) := by decide +kernel
theorem dX12_citizen_4 : decode cX12_citizen 4 = .ok (.iconst 3, 1) := by decide +kernel
theorem dX12_citizen_5 : decode cX12_citizen 5 = .ok (.iaload, 1) := by decide +kernel
theorem dX12_citizen_6 : decode cX12_citizen 6 = .ok (.bipush 8, 2) := by decide +kernel
theorem dX12_citizen_8 : decode cX12_citizen 8 = .ok (.if_icmp .eq 13, 3) := by decide +kernel
theorem dX12_citizen_11 : decode cX12_citizen 11 = .ok (.iload_n 1, 1) := by decide +kernel
theorem dX12_citizen_12 : decode cX12_citizen 12 = .ok (.iconst 0, 1) := by decide +kernel
theorem dX12_citizen_13 : decode cX12_citizen 13 = .ok (.bipush 9, 2) := by decide +kernel
theorem dX12_citizen_15 : decode cX12_citizen 15 = .ok (.invokestatic 114, 3) := by decide +kernel
theorem dX12_citizen_18 : decode cX12_citizen 18 = .ok (.ifCond .ne 5, 3) := by decide +kernel
theorem dX12_citizen_21 : decode cX12_citizen 21 = .ok (.iconst (-1), 1) := by decide +kernel
theorem dX12_citizen_22 : decode cX12_citizen 22 = .ok (.ireturn, 1) := by decide +kernel
theorem dX12_citizen_23 : decode cX12_citizen 23 = .ok (.aload_n 0, 1) := by decide +kernel
theorem dX12_citizen_24 : decode cX12_citizen 24 = .ok (.getfield 7, 3) := by decide +kernel
theorem dX12_citizen_27 : decode cX12_citizen 27 = .ok (.iconst 3, 1) := by decide +kernel
theorem dX12_citizen_28 : decode cX12_citizen 28 = .ok (.iaload, 1) := by decide +kernel
theorem dX12_citizen_29 : decode cX12_citizen 29 = .ok (.istore_n 3, 1) := by decide +kernel
theorem dX12_citizen_30 : decode cX12_citizen 30 = .ok (.aload_n 0, 1) := by decide +kernel
theorem dX12_citizen_31 : decode cX12_citizen 31 = .ok (.getfield 7, 3) := by decide +kernel
theorem dX12_citizen_34 : decode cX12_citizen 34 = .ok (.iconst 3, 1) := by decide +kernel
theorem dX12_citizen_35 : decode cX12_citizen 35 = .ok (.dup2, 1) := by decide +kernel
theorem dX12_citizen_36 : decode cX12_citizen 36 = .ok (.iaload, 1) := by decide +kernel
theorem dX12_citizen_37 : decode cX12_citizen 37 = .ok (.iconst 1, 1) := by decide +kernel
theorem dX12_citizen_38 : decode cX12_citizen 38 = .ok (.iadd, 1) := by decide +kernel
theorem dX12_citizen_39 : decode cX12_citizen 39 = .ok (.iastore, 1) := by decide +kernel
theorem dX12_citizen_40 : decode cX12_citizen 40 = .ok (.iconst 0, 1) := by decide +kernel
theorem dX12_citizen_41 : decode cX12_citizen 41 = .ok (.istore 4, 2) := by decide +kernel
theorem dX12_citizen_43 : decode cX12_citizen 43 = .ok (.iload 4, 2) := by decide +kernel
theorem dX12_citizen_45 : decode cX12_citizen 45 = .ok (.bipush 8, 2) := by decide +kernel
theorem dX12_citizen_47 : decode cX12_citizen 47 = .ok (.if_icmp .ge 25, 3) := by decide +kernel
theorem dX12_citizen_50 : decode cX12_citizen 50 = .ok (.aload_n 0, 1) := by decide +kernel
theorem dX12_citizen_51 : decode cX12_citizen 51 = .ok (.getfield 7, 3) := by decide +kernel
theorem dX12_citizen_54 : decode cX12_citizen 54 = .ok (.bipush 20, 2) := by decide +kernel
theorem dX12_citizen_56 : decode cX12_citizen 56 = .ok (.bipush 8, 2) := by decide +kernel
theorem dX12_citizen_58 : decode cX12_citizen 58 = .ok (.iload_n 3, 1) := by decide +kernel
theorem dX12_citizen_59 : decode cX12_citizen 59 = .ok (.imul, 1) := by decide +kernel
theorem dX12_citizen_60 : decode cX12_citizen 60 = .ok (.iadd, 1) := by decide +kernel
theorem dX12_citizen_61 : decode cX12_citizen 61 = .ok (.iload 4, 2) := by decide +kernel
theorem dX12_citizen_63 : decode cX12_citizen 63 = .ok (.iadd, 1) := by decide +kernel
theorem dX12_citizen_64 : decode cX12_citizen 64 = .ok (.iconst 0, 1) := by decide +kernel
theorem dX12_citizen_65 : decode cX12_citizen 65 = .ok (.iastore, 1) := by decide +kernel
theorem dX12_citizen_66 : decode cX12_citizen 66 = .ok (.iinc 4 1, 3) := by decide +kernel
theorem dX12_citizen_69 : decode cX12_citizen 69 = .ok (.goto (-26), 3) := by decide +kernel
theorem dX12_citizen_72 : decode cX12_citizen 72 = .ok (.aload_n 0, 1) := by decide +kernel
theorem dX12_citizen_73 : decode cX12_citizen 73 = .ok (.getfield 7, 3) := by decide +kernel
theorem dX12_citizen_76 : decode cX12_citizen 76 = .ok (.bipush 20, 2) := by decide +kernel
theorem dX12_citizen_78 : decode cX12_citizen 78 = .ok (.bipush 8, 2) := by decide +kernel
theorem dX12_citizen_80 : decode cX12_citizen 80 = .ok (.iload_n 3, 1) := by decide +kernel
theorem dX12_citizen_81 : decode cX12_citizen 81 = .ok (.imul, 1) := by decide +kernel
theorem dX12_citizen_82 : decode cX12_citizen 82 = .ok (.iadd, 1) := by decide +kernel
theorem dX12_citizen_83 : decode cX12_citizen 83 = .ok (.iload_n 1, 1) := by decide +kernel
theorem dX12_citizen_84 : decode cX12_citizen 84 = .ok (.iastore, 1) := by decide +kernel
theorem dX12_citizen_85 : decode cX12_citizen 85 = .ok (.aload_n 0, 1) := by decide +kernel
theorem dX12_citizen_86 : decode cX12_citizen 86 = .ok (.getfield 7, 3) := by decide +kernel
theorem dX12_citizen_89 : decode cX12_citizen 89 = .ok (.bipush 20, 2) := by decide +kernel
theorem dX12_citizen_91 : decode cX12_citizen 91 = .ok (.bipush 8, 2) := by decide +kernel
theorem dX12_citizen_93 : decode cX12_citizen 93 = .ok (.iload_n 3, 1) := by decide +kernel
theorem dX12_citizen_94 : decode cX12_citizen 94 = .ok (.imul, 1) := by decide +kernel
theorem dX12_citizen_95 : decode cX12_citizen 95 = .ok (.iadd, 1) := by decide +kernel
theorem dX12_citizen_96 : decode cX12_citizen 96 = .ok (.iconst 1, 1) := by decide +kernel
theorem dX12_citizen_97 : decode cX12_citizen 97 = .ok (.iadd, 1) := by decide +kernel
theorem dX12_citizen_98 : decode cX12_citizen 98 = .ok (.iload_n 2, 1) := by decide +kernel
theorem dX12_citizen_99 : decode cX12_citizen 99 = .ok (.ifCond .eq 7, 3) := by decide +kernel
theorem dX12_citizen_102 : decode cX12_citizen 102 = .ok (.iconst 1, 1) := by decide +kernel
theorem dX12_citizen_103 : decode cX12_citizen 103 = .ok (.goto 4, 3) := by decide +kernel
theorem dX12_citizen_106 : decode cX12_citizen 106 = .ok (.iconst 0, 1) := by decide +kernel
theorem dX12_citizen_107 : decode cX12_citizen 107 = .ok (.iastore, 1) := by decide +kernel
theorem dX12_citizen_108 : decode cX12_citizen 108 = .ok (.iload_n 3, 1) := by decide +kernel
theorem dX12_citizen_109 : decode cX12_citizen 109 = .ok (.ireturn, 1) := by decide +kernel
theorem dX12_mostOf_0 : decode cX12_mostOf 0 = .ok (.iload_n 0, 1) := by decide +kernel
theorem dX12_mostOf_1 : decode cX12_mostOf 1 = .ok (.iconst 2, 1) := by decide +kernel
theorem dX12_mostOf_2 : decode cX12_mostOf 2 = .ok (.if_icmp .ne 9, 3) := by decide +kernel
theorem dX12_mostOf_5 : decode cX12_mostOf 5 = .ok (.sipush 12000, 3) := by decide +kernel
theorem dX12_mostOf_8 : decode cX12_mostOf 8 = .ok (.goto 16, 3) := by decide +kernel
theorem dX12_mostOf_11 : decode cX12_mostOf 11 = .ok (.iload_n 0, 1) := by decide +kernel
theorem dX12_mostOf_12 : decode cX12_mostOf 12 = .ok (.iconst 3, 1) := by decide +kernel
theorem dX12_mostOf_13 : decode cX12_mostOf 13 = .ok (.if_icmp .ne 8, 3) := by decide +kernel
theorem dX12_mostOf_16 : decode cX12_mostOf 16 = .ok (.bipush 9, 2) := by decide +kernel
theorem dX12_mostOf_18 : decode cX12_mostOf 18 = .ok (.goto 6, 3) := by decide +kernel
theorem dX12_mostOf_21 : decode cX12_mostOf 21 = .ok (.sipush 2400, 3) := by decide +kernel
theorem dX12_mostOf_24 : decode cX12_mostOf 24 = .ok (.ireturn, 1) := by decide +kernel
set_option maxRecDepth 20000 in
theorem ggX12_rule_X12_isIn : GoodIn wsX12_rule wsX12_isIn := goodIn_r _ [5] (by decide +kernel) (by decide +kernel)
set_option maxRecDepth 20000 in
theorem gX12_rule_X12_isIn : GoodIn wsX12_rule (va_wsS RX12 114 yX12_isIn wsX12_isIn) := goodIn_app (goodIn_of _ (by decide +kernel)) ggX12_rule_X12_isIn
set_option maxRecDepth 20000 in
theorem ggX12_rule_X12_mostOf : GoodIn wsX12_rule wsX12_mostOf := goodIn_r _ [8] (by decide +kernel) (by decide +kernel)
set_option maxRecDepth 20000 in
theorem gX12_rule_X12_mostOf : GoodIn wsX12_rule (va_wsS RX12 142 yX12_mostOf wsX12_mostOf) := goodIn_app (goodIn_of _ (by decide +kernel)) ggX12_rule_X12_mostOf
theorem dX12_rule_0 : decode cX12_rule 0 = .ok (.iload_n 1, 1) := by decide +kernel
theorem dX12_rule_1 : decode cX12_rule 1 = .ok (.iconst 0, 1) := by decide +kernel
theorem dX12_rule_2 : decode cX12_rule 2 = .ok (.iconst 3, 1) := by decide +kernel
theorem dX12_rule_3 : decode cX12_rule 3 = .ok (.invokestatic 114, 3) := by decide +kernel
theorem dX12_rule_6 : decode cX12_rule 6 = .ok (.ifCond .eq 15, 3) := by decide +kernel
theorem dX12_rule_9 : decode cX12_rule 9 = .ok (.iload_n 2, 1) := by decide +kernel
theorem dX12_rule_10 : decode cX12_rule 10 = .ok (.iconst 0, 1) := by decide +kernel
theorem dX12_rule_11 : decode cX12_rule 11 = .ok (.iload_n 1, 1) := by decide +kernel
theorem dX12_rule_12 : decode cX12_rule 12 = .ok (.invokestatic 142, 3) := by decide +kernel
theorem dX12_rule_15 : decode cX12_rule 15 = .ok (.invokestatic 114, 3) := by decide +kernel
theorem dX12_rule_18 : decode cX12_rule 18 = .ok (.ifCond .ne 5, 3) := by decide +kernel
theorem dX12_rule_21 : decode cX12_rule 21 = .ok (.iconst 0, 1) := by decide +kernel
theorem dX12_rule_22 : decode cX12_rule 22 = .ok (.ireturn, 1) := by decide +kernel
theorem dX12_rule_23 : decode cX12_rule 23 = .ok (.aload_n 0, 1) := by decide +kernel
theorem dX12_rule_24 : decode cX12_rule 24 = .ok (.getfield 7, 3) := by decide +kernel
theorem dX12_rule_27 : decode cX12_rule 27 = .ok (.bipush 8, 2) := by decide +kernel
theorem dX12_rule_29 : decode cX12_rule 29 = .ok (.iload_n 1, 1) := by decide +kernel
theorem dX12_rule_30 : decode cX12_rule 30 = .ok (.iadd, 1) := by decide +kernel
theorem dX12_rule_31 : decode cX12_rule 31 = .ok (.iload_n 2, 1) := by decide +kernel
theorem dX12_rule_32 : decode cX12_rule 32 = .ok (.iastore, 1) := by decide +kernel
theorem dX12_rule_33 : decode cX12_rule 33 = .ok (.iconst 1, 1) := by decide +kernel
theorem dX12_rule_34 : decode cX12_rule 34 = .ok (.ireturn, 1) := by decide +kernel
set_option maxRecDepth 20000 in
theorem ggX12_asked_X12_of : GoodIn wsX12_asked wsX12_of := goodIn_r _ [6, 1, 7, 8, 9, 10, 11, 12, 13, 14, 15, 16, 17, 18, 19, 20, 21, 22, 23, 24, 25, 26, 27] (by decide +kernel) (by decide +kernel)
set_option maxRecDepth 20000 in
theorem gX12_asked_X12_of : GoodIn wsX12_asked (wsV RX12 145 RX12 yX12_of wsX12_of) := goodIn_app (goodIn_of _ (by decide +kernel)) ggX12_asked_X12_of
theorem dX12_asked_0 : decode cX12_asked 0 = .ok (.iload_n 2, 1) := by decide +kernel
theorem dX12_asked_1 : decode cX12_asked 1 = .ok (.tableswitch 59 1 4 #[31, 38, 45, 52], 31) := by decide +kernel
theorem dX12_asked_32 : decode cX12_asked 32 = .ok (.aload_n 0, 1) := by decide +kernel
theorem dX12_asked_33 : decode cX12_asked 33 = .ok (.iload_n 1, 1) := by decide +kernel
theorem dX12_asked_34 : decode cX12_asked 34 = .ok (.iconst 1, 1) := by decide +kernel
theorem dX12_asked_35 : decode cX12_asked 35 = .ok (.invokevirtual 145, 3) := by decide +kernel
theorem dX12_asked_38 : decode cX12_asked 38 = .ok (.ireturn, 1) := by decide +kernel
theorem dX12_asked_39 : decode cX12_asked 39 = .ok (.aload_n 0, 1) := by decide +kernel
theorem dX12_asked_40 : decode cX12_asked 40 = .ok (.iload_n 1, 1) := by decide +kernel
theorem dX12_asked_41 : decode cX12_asked 41 = .ok (.iconst 0, 1) := by decide +kernel
theorem dX12_asked_42 : decode cX12_asked 42 = .ok (.invokevirtual 145, 3) := by decide +kernel
theorem dX12_asked_45 : decode cX12_asked 45 = .ok (.ireturn, 1) := by decide +kernel
theorem dX12_asked_46 : decode cX12_asked 46 = .ok (.aload_n 0, 1) := by decide +kernel
theorem dX12_asked_47 : decode cX12_asked 47 = .ok (.getfield 7, 3) := by decide +kernel
theorem dX12_asked_50 : decode cX12_asked 50 = .ok (.iconst 0, 1) := by decide +kernel
theorem dX12_asked_51 : decode cX12_asked 51 = .ok (.iaload, 1) := by decide +kernel
theorem dX12_asked_52 : decode cX12_asked 52 = .ok (.ireturn, 1) := by decide +kernel
theorem dX12_asked_53 : decode cX12_asked 53 = .ok (.aload_n 0, 1) := by decide +kernel
theorem dX12_asked_54 : decode cX12_asked 54 = .ok (.iload_n 1, 1) := by decide +kernel
theorem dX12_asked_55 : decode cX12_asked 55 = .ok (.iconst 3, 1) := by decide +kernel
theorem dX12_asked_56 : decode cX12_asked 56 = .ok (.invokevirtual 145, 3) := by decide +kernel
theorem dX12_asked_59 : decode cX12_asked 59 = .ok (.ireturn, 1) := by decide +kernel
theorem dX12_asked_60 : decode cX12_asked 60 = .ok (.aload_n 0, 1) := by decide +kernel
theorem dX12_asked_61 : decode cX12_asked 61 = .ok (.getfield 7, 3) := by decide +kernel
theorem dX12_asked_64 : decode cX12_asked 64 = .ok (.bipush 6, 2) := by decide +kernel
theorem dX12_asked_66 : decode cX12_asked 66 = .ok (.iaload, 1) := by decide +kernel
theorem dX12_asked_67 : decode cX12_asked 67 = .ok (.ireturn, 1) := by decide +kernel
set_option maxRecDepth 20000 in
theorem ggX12_holds_X12_asked : GoodIn wsX12_holds wsX12_asked := goodIn_r _ [6, 1, 7, 8, 9, 5, 10, 11, 12, 13, 14, 15, 16, 17, 18, 19, 20, 21, 22, 23, 24, 25, 26, 27, 28, 29, 30, 31] (by decide +kernel) (by decide +kernel)
set_option maxRecDepth 20000 in
theorem gX12_holds_X12_asked : GoodIn wsX12_holds (wsV RX12 149 RX12 yX12_asked wsX12_asked) := goodIn_app (goodIn_of _ (by decide +kernel)) ggX12_holds_X12_asked
theorem dX12_holds_0 : decode cX12_holds 0 = .ok (.iconst 1, 1) := by decide +kernel
theorem dX12_holds_1 : decode cX12_holds 1 = .ok (.istore_n 3, 1) := by decide +kernel
theorem dX12_holds_2 : decode cX12_holds 2 = .ok (.iconst 0, 1) := by decide +kernel
theorem dX12_holds_3 : decode cX12_holds 3 = .ok (.istore 4, 2) := by decide +kernel
theorem dX12_holds_5 : decode cX12_holds 5 = .ok (.iload 4, 2) := by decide +kernel
theorem dX12_holds_7 : decode cX12_holds 7 = .ok (.aload_n 0, 1) := by decide +kernel
theorem dX12_holds_8 : decode cX12_holds 8 = .ok (.getfield 7, 3) := by decide +kernel
theorem dX12_holds_11 : decode cX12_holds 11 = .ok (.iload_n 2, 1) := by decide +kernel
theorem dX12_holds_12 : decode cX12_holds 12 = .ok (.iaload, 1) := by decide +kernel
theorem dX12_holds_13 : decode cX12_holds 13 = .ok (.if_icmp .ge 149, 3) := by decide +kernel
theorem dX12_holds_16 : decode cX12_holds 16 = .ok (.iload_n 3, 1) := by decide +kernel
theorem dX12_holds_17 : decode cX12_holds 17 = .ok (.ifCond .eq 145, 3) := by decide +kernel
theorem dX12_holds_20 : decode cX12_holds 20 = .ok (.iload_n 2, 1) := by decide +kernel
theorem dX12_holds_21 : decode cX12_holds 21 = .ok (.iconst 1, 1) := by decide +kernel
theorem dX12_holds_22 : decode cX12_holds 22 = .ok (.iadd, 1) := by decide +kernel
theorem dX12_holds_23 : decode cX12_holds 23 = .ok (.iconst 4, 1) := by decide +kernel
theorem dX12_holds_24 : decode cX12_holds 24 = .ok (.iload 4, 2) := by decide +kernel
theorem dX12_holds_26 : decode cX12_holds 26 = .ok (.imul, 1) := by decide +kernel
theorem dX12_holds_27 : decode cX12_holds 27 = .ok (.iadd, 1) := by decide +kernel
theorem dX12_holds_28 : decode cX12_holds 28 = .ok (.istore 5, 2) := by decide +kernel
theorem dX12_holds_30 : decode cX12_holds 30 = .ok (.aload_n 0, 1) := by decide +kernel
theorem dX12_holds_31 : decode cX12_holds 31 = .ok (.iload_n 1, 1) := by decide +kernel
theorem dX12_holds_32 : decode cX12_holds 32 = .ok (.aload_n 0, 1) := by decide +kernel
theorem dX12_holds_33 : decode cX12_holds 33 = .ok (.getfield 7, 3) := by decide +kernel
theorem dX12_holds_36 : decode cX12_holds 36 = .ok (.iload 5, 2) := by decide +kernel
theorem dX12_holds_38 : decode cX12_holds 38 = .ok (.iconst 1, 1) := by decide +kernel
theorem dX12_holds_39 : decode cX12_holds 39 = .ok (.iadd, 1) := by decide +kernel
theorem dX12_holds_40 : decode cX12_holds 40 = .ok (.iaload, 1) := by decide +kernel
theorem dX12_holds_41 : decode cX12_holds 41 = .ok (.invokevirtual 149, 3) := by decide +kernel
theorem dX12_holds_44 : decode cX12_holds 44 = .ok (.istore 6, 2) := by decide +kernel
theorem dX12_holds_46 : decode cX12_holds 46 = .ok (.aload_n 0, 1) := by decide +kernel
theorem dX12_holds_47 : decode cX12_holds 47 = .ok (.getfield 7, 3) := by decide +kernel
theorem dX12_holds_50 : decode cX12_holds 50 = .ok (.iload 5, 2) := by decide +kernel
theorem dX12_holds_52 : decode cX12_holds 52 = .ok (.iconst 3, 1) := by decide +kernel
theorem dX12_holds_53 : decode cX12_holds 53 = .ok (.iadd, 1) := by decide +kernel
theorem dX12_holds_54 : decode cX12_holds 54 = .ok (.iaload, 1) := by decide +kernel
theorem dX12_holds_55 : decode cX12_holds 55 = .ok (.istore 7, 2) := by decide +kernel
theorem dX12_holds_57 : decode cX12_holds 57 = .ok (.aload_n 0, 1) := by decide +kernel
theorem dX12_holds_58 : decode cX12_holds 58 = .ok (.getfield 7, 3) := by decide +kernel
theorem dX12_holds_61 : decode cX12_holds 61 = .ok (.iload 5, 2) := by decide +kernel
theorem dX12_holds_63 : decode cX12_holds 63 = .ok (.iconst 2, 1) := by decide +kernel
theorem dX12_holds_64 : decode cX12_holds 64 = .ok (.iadd, 1) := by decide +kernel
theorem dX12_holds_65 : decode cX12_holds 65 = .ok (.iaload, 1) := by decide +kernel
theorem dX12_holds_66 : decode cX12_holds 66 = .ok (.bipush 60, 2) := by decide +kernel
theorem dX12_holds_68 : decode cX12_holds 68 = .ok (.if_icmp .ne 18, 3) := by decide +kernel
theorem dX12_holds_71 : decode cX12_holds 71 = .ok (.iload 6, 2) := by decide +kernel
theorem dX12_holds_73 : decode cX12_holds 73 = .ok (.iload 7, 2) := by decide +kernel
theorem dX12_holds_75 : decode cX12_holds 75 = .ok (.if_icmp .ge 7, 3) := by decide +kernel
theorem dX12_holds_78 : decode cX12_holds 78 = .ok (.iconst 1, 1) := by decide +kernel
theorem dX12_holds_79 : decode cX12_holds 79 = .ok (.goto 48, 3) := by decide +kernel
theorem dX12_holds_82 : decode cX12_holds 82 = .ok (.iconst 0, 1) := by decide +kernel
theorem dX12_holds_83 : decode cX12_holds 83 = .ok (.goto 44, 3) := by decide +kernel
theorem dX12_holds_86 : decode cX12_holds 86 = .ok (.aload_n 0, 1) := by decide +kernel
theorem dX12_holds_87 : decode cX12_holds 87 = .ok (.getfield 7, 3) := by decide +kernel
theorem dX12_holds_90 : decode cX12_holds 90 = .ok (.iload 5, 2) := by decide +kernel
theorem dX12_holds_92 : decode cX12_holds 92 = .ok (.iconst 2, 1) := by decide +kernel
theorem dX12_holds_93 : decode cX12_holds 93 = .ok (.iadd, 1) := by decide +kernel
theorem dX12_holds_94 : decode cX12_holds 94 = .ok (.iaload, 1) := by decide +kernel
theorem dX12_holds_95 : decode cX12_holds 95 = .ok (.bipush 62, 2) := by decide +kernel
theorem dX12_holds_97 : decode cX12_holds 97 = .ok (.if_icmp .ne 18, 3) := by decide +kernel
theorem dX12_holds_100 : decode cX12_holds 100 = .ok (.iload 6, 2) := by decide +kernel
theorem dX12_holds_102 : decode cX12_holds 102 = .ok (.iload 7, 2) := by decide +kernel
theorem dX12_holds_104 : decode cX12_holds 104 = .ok (.if_icmp .le 7, 3) := by decide +kernel
theorem dX12_holds_107 : decode cX12_holds 107 = .ok (.iconst 1, 1) := by decide +kernel
theorem dX12_holds_108 : decode cX12_holds 108 = .ok (.goto 19, 3) := by decide +kernel
theorem dX12_holds_111 : decode cX12_holds 111 = .ok (.iconst 0, 1) := by decide +kernel
theorem dX12_holds_112 : decode cX12_holds 112 = .ok (.goto 15, 3) := by decide +kernel
theorem dX12_holds_115 : decode cX12_holds 115 = .ok (.iload 6, 2) := by decide +kernel
theorem dX12_holds_117 : decode cX12_holds 117 = .ok (.iload 7, 2) := by decide +kernel
theorem dX12_holds_119 : decode cX12_holds 119 = .ok (.if_icmp .ne 7, 3) := by decide +kernel
theorem dX12_holds_122 : decode cX12_holds 122 = .ok (.iconst 1, 1) := by decide +kernel
theorem dX12_holds_123 : decode cX12_holds 123 = .ok (.goto 4, 3) := by decide +kernel
theorem dX12_holds_126 : decode cX12_holds 126 = .ok (.iconst 0, 1) := by decide +kernel
theorem dX12_holds_127 : decode cX12_holds 127 = .ok (.istore 8, 2) := by decide +kernel
theorem dX12_holds_129 : decode cX12_holds 129 = .ok (.iload 8, 2) := by decide +kernel
theorem dX12_holds_131 : decode cX12_holds 131 = .ok (.aload_n 0, 1) := by decide +kernel
theorem dX12_holds_132 : decode cX12_holds 132 = .ok (.getfield 7, 3) := by decide +kernel
theorem dX12_holds_135 : decode cX12_holds 135 = .ok (.iload 5, 2) := by decide +kernel
theorem dX12_holds_137 : decode cX12_holds 137 = .ok (.iaload, 1) := by decide +kernel
theorem dX12_holds_138 : decode cX12_holds 138 = .ok (.iconst 1, 1) := by decide +kernel
theorem dX12_holds_139 : decode cX12_holds 139 = .ok (.if_icmp .ne 7, 3) := by decide +kernel
theorem dX12_holds_142 : decode cX12_holds 142 = .ok (.iconst 1, 1) := by decide +kernel
theorem dX12_holds_143 : decode cX12_holds 143 = .ok (.goto 4, 3) := by decide +kernel
theorem dX12_holds_146 : decode cX12_holds 146 = .ok (.iconst 0, 1) := by decide +kernel
theorem dX12_holds_147 : decode cX12_holds 147 = .ok (.if_icmp .eq 7, 3) := by decide +kernel
theorem dX12_holds_150 : decode cX12_holds 150 = .ok (.iconst 1, 1) := by decide +kernel
theorem dX12_holds_151 : decode cX12_holds 151 = .ok (.goto 4, 3) := by decide +kernel
theorem dX12_holds_154 : decode cX12_holds 154 = .ok (.iconst 0, 1) := by decide +kernel
theorem dX12_holds_155 : decode cX12_holds 155 = .ok (.istore_n 3, 1) := by decide +kernel
theorem dX12_holds_156 : decode cX12_holds 156 = .ok (.iinc 4 1, 3) := by decide +kernel
theorem dX12_holds_159 : decode cX12_holds 159 = .ok (.goto (-154), 3) := by decide +kernel
theorem dX12_holds_162 : decode cX12_holds 162 = .ok (.iload_n 3, 1) := by decide +kernel
theorem dX12_holds_163 : decode cX12_holds 163 = .ok (.ireturn, 1) := by decide +kernel
set_option maxRecDepth 20000 in
theorem ggX12_share_X12_holds : GoodIn wsX12_share wsX12_holds := goodIn_r _ [6, 1, 7, 8, 9, 5, 10, 11, 12, 13, 14, 15, 16, 17, 18, 19, 20, 21, 22, 23, 24, 25, 26, 27, 28, 29, 30, 31, 32, 33, 34, 35] (by decide +kernel) (by decide +kernel)
set_option maxRecDepth 20000 in
theorem gX12_share_X12_holds : GoodIn wsX12_share (wsV RX12 152 RX12 yX12_holds wsX12_holds) := goodIn_app (goodIn_of _ (by decide +kernel)) ggX12_share_X12_holds
theorem dX12_share_0 : decode cX12_share 0 = .ok (.iconst 0, 1) := by decide +kernel
theorem dX12_share_1 : decode cX12_share 1 = .ok (.istore_n 2, 1) := by decide +kernel
theorem dX12_share_2 : decode cX12_share 2 = .ok (.iconst 0, 1) := by decide +kernel
theorem dX12_share_3 : decode cX12_share 3 = .ok (.istore_n 3, 1) := by decide +kernel
theorem dX12_share_4 : decode cX12_share 4 = .ok (.iload_n 3, 1) := by decide +kernel
theorem dX12_share_5 : decode cX12_share 5 = .ok (.aload_n 0, 1) := by decide +kernel
theorem dX12_share_6 : decode cX12_share 6 = .ok (.getfield 7, 3) := by decide +kernel
theorem dX12_share_9 : decode cX12_share 9 = .ok (.bipush 7, 2) := by decide +kernel
theorem dX12_share_11 : decode cX12_share 11 = .ok (.iaload, 1) := by decide +kernel
theorem dX12_share_12 : decode cX12_share 12 = .ok (.if_icmp .ge 90, 3) := by decide +kernel
theorem dX12_share_15 : decode cX12_share 15 = .ok (.sipush 2080, 3) := by decide +kernel
theorem dX12_share_18 : decode cX12_share 18 = .ok (.bipush 19, 2) := by decide +kernel
theorem dX12_share_20 : decode cX12_share 20 = .ok (.iload_n 3, 1) := by decide +kernel
theorem dX12_share_21 : decode cX12_share 21 = .ok (.imul, 1) := by decide +kernel
theorem dX12_share_22 : decode cX12_share 22 = .ok (.iadd, 1) := by decide +kernel
theorem dX12_share_23 : decode cX12_share 23 = .ok (.istore 4, 2) := by decide +kernel
theorem dX12_share_25 : decode cX12_share 25 = .ok (.aload_n 0, 1) := by decide +kernel
theorem dX12_share_26 : decode cX12_share 26 = .ok (.iload_n 1, 1) := by decide +kernel
theorem dX12_share_27 : decode cX12_share 27 = .ok (.iload 4, 2) := by decide +kernel
theorem dX12_share_29 : decode cX12_share 29 = .ok (.invokevirtual 152, 3) := by decide +kernel
theorem dX12_share_32 : decode cX12_share 32 = .ok (.ifCond .ne 6, 3) := by decide +kernel
theorem dX12_share_35 : decode cX12_share 35 = .ok (.goto 61, 3) := by decide +kernel
theorem dX12_share_38 : decode cX12_share 38 = .ok (.aload_n 0, 1) := by decide +kernel
theorem dX12_share_39 : decode cX12_share 39 = .ok (.getfield 7, 3) := by decide +kernel
theorem dX12_share_42 : decode cX12_share 42 = .ok (.iload 4, 2) := by decide +kernel
theorem dX12_share_44 : decode cX12_share 44 = .ok (.bipush 17, 2) := by decide +kernel
theorem dX12_share_46 : decode cX12_share 46 = .ok (.iadd, 1) := by decide +kernel
theorem dX12_share_47 : decode cX12_share 47 = .ok (.iaload, 1) := by decide +kernel
theorem dX12_share_48 : decode cX12_share 48 = .ok (.bipush 22, 2) := by decide +kernel
theorem dX12_share_50 : decode cX12_share 50 = .ok (.if_icmp .ne 5, 3) := by decide +kernel
theorem dX12_share_53 : decode cX12_share 53 = .ok (.iconst 0, 1) := by decide +kernel
theorem dX12_share_54 : decode cX12_share 54 = .ok (.ireturn, 1) := by decide +kernel
theorem dX12_share_55 : decode cX12_share 55 = .ok (.aload_n 0, 1) := by decide +kernel
theorem dX12_share_56 : decode cX12_share 56 = .ok (.getfield 7, 3) := by decide +kernel
theorem dX12_share_59 : decode cX12_share 59 = .ok (.iload 4, 2) := by decide +kernel
theorem dX12_share_61 : decode cX12_share 61 = .ok (.bipush 17, 2) := by decide +kernel
theorem dX12_share_63 : decode cX12_share 63 = .ok (.iadd, 1) := by decide +kernel
theorem dX12_share_64 : decode cX12_share 64 = .ok (.iaload, 1) := by decide +kernel
theorem dX12_share_65 : decode cX12_share 65 = .ok (.bipush 20, 2) := by decide +kernel
theorem dX12_share_67 : decode cX12_share 67 = .ok (.if_icmp .ne 16, 3) := by decide +kernel
theorem dX12_share_70 : decode cX12_share 70 = .ok (.aload_n 0, 1) := by decide +kernel
theorem dX12_share_71 : decode cX12_share 71 = .ok (.getfield 7, 3) := by decide +kernel
theorem dX12_share_74 : decode cX12_share 74 = .ok (.iload 4, 2) := by decide +kernel
theorem dX12_share_76 : decode cX12_share 76 = .ok (.bipush 18, 2) := by decide +kernel
theorem dX12_share_78 : decode cX12_share 78 = .ok (.iadd, 1) := by decide +kernel
theorem dX12_share_79 : decode cX12_share 79 = .ok (.iaload, 1) := by decide +kernel
theorem dX12_share_80 : decode cX12_share 80 = .ok (.goto 15, 3) := by decide +kernel
theorem dX12_share_83 : decode cX12_share 83 = .ok (.iload_n 2, 1) := by decide +kernel
theorem dX12_share_84 : decode cX12_share 84 = .ok (.aload_n 0, 1) := by decide +kernel
theorem dX12_share_85 : decode cX12_share 85 = .ok (.getfield 7, 3) := by decide +kernel
theorem dX12_share_88 : decode cX12_share 88 = .ok (.iload 4, 2) := by decide +kernel
theorem dX12_share_90 : decode cX12_share 90 = .ok (.bipush 18, 2) := by decide +kernel
theorem dX12_share_92 : decode cX12_share 92 = .ok (.iadd, 1) := by decide +kernel
theorem dX12_share_93 : decode cX12_share 93 = .ok (.iaload, 1) := by decide +kernel
theorem dX12_share_94 : decode cX12_share 94 = .ok (.iadd, 1) := by decide +kernel
theorem dX12_share_95 : decode cX12_share 95 = .ok (.istore_n 2, 1) := by decide +kernel
theorem dX12_share_96 : decode cX12_share 96 = .ok (.iinc 3 1, 3) := by decide +kernel
theorem dX12_share_99 : decode cX12_share 99 = .ok (.goto (-95), 3) := by decide +kernel
theorem dX12_share_102 : decode cX12_share 102 = .ok (.iload_n 2, 1) := by decide +kernel
theorem dX12_share_103 : decode cX12_share 103 = .ok (.ireturn, 1) := by decide +kernel
set_option maxRecDepth 20000 in
theorem ggX12_give_X12_share : GoodIn wsX12_give wsX12_share := goodIn_r _ [8, 1, 9, 10, 11, 7, 12, 13, 14, 15, 16, 17, 18, 19, 20, 24, 25, 26, 27, 28, 29, 30, 31, 32, 33, 34, 35, 36, 37, 38, 39, 40, 41, 42, 43, 44] (by decide +kernel) (by decide +kernel)
set_option maxRecDepth 20000 in
theorem gX12_give_X12_share : GoodIn wsX12_give (wsV RX12 156 RX12 yX12_share wsX12_share) := goodIn_app (goodIn_of _ (by decide +kernel)) ggX12_give_X12_share
set_option maxRecDepth 20000 in
theorem ggX12_give_X12_isIn : GoodIn wsX12_give wsX12_isIn := goodIn_r _ [23] (by decide +kernel) (by decide +kernel)
set_option maxRecDepth 20000 in
theorem gX12_give_X12_isIn : GoodIn wsX12_give (va_wsS RX12 114 yX12_isIn wsX12_isIn) := goodIn_app (goodIn_of _ (by decide +kernel)) ggX12_give_X12_isIn
theorem dX12_give_0 : decode cX12_give 0 = .ok (.iconst 0, 1) := by decide +kernel
theorem dX12_give_1 : decode cX12_give 1 = .ok (.istore_n 2, 1) := by decide +kernel
theorem dX12_give_2 : decode cX12_give 2 = .ok (.iconst 0, 1) := by decide +kernel
theorem dX12_give_3 : decode cX12_give 3 = .ok (.istore_n 3, 1) := by decide +kernel
theorem dX12_give_4 : decode cX12_give 4 = .ok (.iload_n 3, 1) := by decide +kernel
theorem dX12_give_5 : decode cX12_give 5 = .ok (.aload_n 0, 1) := by decide +kernel
theorem dX12_give_6 : decode cX12_give 6 = .ok (.getfield 7, 3) := by decide +kernel
theorem dX12_give_9 : decode cX12_give 9 = .ok (.iconst 3, 1) := by decide +kernel
theorem dX12_give_10 : decode cX12_give 10 = .ok (.iaload, 1) := by decide +kernel
theorem dX12_give_11 : decode cX12_give 11 = .ok (.if_icmp .ge 17, 3) := by decide +kernel
theorem dX12_give_14 : decode cX12_give 14 = .ok (.iload_n 2, 1) := by decide +kernel
theorem dX12_give_15 : decode cX12_give 15 = .ok (.aload_n 0, 1) := by decide +kernel
theorem dX12_give_16 : decode cX12_give 16 = .ok (.iload_n 3, 1) := by decide +kernel
theorem dX12_give_17 : decode cX12_give 17 = .ok (.invokevirtual 156, 3) := by decide +kernel
theorem dX12_give_20 : decode cX12_give 20 = .ok (.iadd, 1) := by decide +kernel
theorem dX12_give_21 : decode cX12_give 21 = .ok (.istore_n 2, 1) := by decide +kernel
theorem dX12_give_22 : decode cX12_give 22 = .ok (.iinc 3 1, 3) := by decide +kernel
theorem dX12_give_25 : decode cX12_give 25 = .ok (.goto (-21), 3) := by decide +kernel
theorem dX12_give_28 : decode cX12_give 28 = .ok (.aload_n 0, 1) := by decide +kernel
theorem dX12_give_29 : decode cX12_give 29 = .ok (.getfield 7, 3) := by decide +kernel
theorem dX12_give_32 : decode cX12_give 32 = .ok (.iconst 1, 1) := by decide +kernel
theorem dX12_give_33 : decode cX12_give 33 = .ok (.iaload, 1) := by decide +kernel
theorem dX12_give_34 : decode cX12_give 34 = .ok (.iconst 1, 1) := by decide +kernel
theorem dX12_give_35 : decode cX12_give 35 = .ok (.if_icmp .eq 27, 3) := by decide +kernel
theorem dX12_give_38 : decode cX12_give 38 = .ok (.aload_n 0, 1) := by decide +kernel
theorem dX12_give_39 : decode cX12_give 39 = .ok (.getfield 7, 3) := by decide +kernel
theorem dX12_give_42 : decode cX12_give 42 = .ok (.iconst 2, 1) := by decide +kernel
theorem dX12_give_43 : decode cX12_give 43 = .ok (.iaload, 1) := by decide +kernel
theorem dX12_give_44 : decode cX12_give 44 = .ok (.ifCond .gt 18, 3) := by decide +kernel
theorem dX12_give_47 : decode cX12_give 47 = .ok (.iload_n 1, 1) := by decide +kernel
theorem dX12_give_48 : decode cX12_give 48 = .ok (.iconst 1, 1) := by decide +kernel
theorem dX12_give_49 : decode cX12_give 49 = .ok (.sipush 400, 3) := by decide +kernel
theorem dX12_give_52 : decode cX12_give 52 = .ok (.invokestatic 114, 3) := by decide +kernel
theorem dX12_give_55 : decode cX12_give 55 = .ok (.ifCond .eq 7, 3) := by decide +kernel
theorem dX12_give_58 : decode cX12_give 58 = .ok (.iload_n 2, 1) := by decide +kernel
theorem dX12_give_59 : decode cX12_give 59 = .ok (.ifCond .ne 5, 3) := by decide +kernel
theorem dX12_give_62 : decode cX12_give 62 = .ok (.iconst 0, 1) := by decide +kernel
theorem dX12_give_63 : decode cX12_give 63 = .ok (.ireturn, 1) := by decide +kernel
theorem dX12_give_64 : decode cX12_give 64 = .ok (.iload_n 1, 1) := by decide +kernel
theorem dX12_give_65 : decode cX12_give 65 = .ok (.istore_n 3, 1) := by decide +kernel
theorem dX12_give_66 : decode cX12_give 66 = .ok (.iconst 0, 1) := by decide +kernel
theorem dX12_give_67 : decode cX12_give 67 = .ok (.istore 4, 2) := by decide +kernel
theorem dX12_give_69 : decode cX12_give 69 = .ok (.iload 4, 2) := by decide +kernel
theorem dX12_give_71 : decode cX12_give 71 = .ok (.aload_n 0, 1) := by decide +kernel
theorem dX12_give_72 : decode cX12_give 72 = .ok (.getfield 7, 3) := by decide +kernel
theorem dX12_give_75 : decode cX12_give 75 = .ok (.iconst 3, 1) := by decide +kernel
theorem dX12_give_76 : decode cX12_give 76 = .ok (.iaload, 1) := by decide +kernel
theorem dX12_give_77 : decode cX12_give 77 = .ok (.if_icmp .ge 53, 3) := by decide +kernel
theorem dX12_give_80 : decode cX12_give 80 = .ok (.aload_n 0, 1) := by decide +kernel
theorem dX12_give_81 : decode cX12_give 81 = .ok (.getfield 26, 3) := by decide +kernel
theorem dX12_give_84 : decode cX12_give 84 = .ok (.iload 4, 2) := by decide +kernel
theorem dX12_give_86 : decode cX12_give 86 = .ok (.iload_n 1, 1) := by decide +kernel
theorem dX12_give_87 : decode cX12_give 87 = .ok (.aload_n 0, 1) := by decide +kernel
theorem dX12_give_88 : decode cX12_give 88 = .ok (.iload 4, 2) := by decide +kernel
theorem dX12_give_90 : decode cX12_give 90 = .ok (.invokevirtual 156, 3) := by decide +kernel
theorem dX12_give_93 : decode cX12_give 93 = .ok (.imul, 1) := by decide +kernel
theorem dX12_give_94 : decode cX12_give 94 = .ok (.iload_n 2, 1) := by decide +kernel
theorem dX12_give_95 : decode cX12_give 95 = .ok (.idiv, 1) := by decide +kernel
theorem dX12_give_96 : decode cX12_give 96 = .ok (.iastore, 1) := by decide +kernel
theorem dX12_give_97 : decode cX12_give 97 = .ok (.aload_n 0, 1) := by decide +kernel
theorem dX12_give_98 : decode cX12_give 98 = .ok (.getfield 23, 3) := by decide +kernel
theorem dX12_give_101 : decode cX12_give 101 = .ok (.iload 4, 2) := by decide +kernel
theorem dX12_give_103 : decode cX12_give 103 = .ok (.iload_n 1, 1) := by decide +kernel
theorem dX12_give_104 : decode cX12_give 104 = .ok (.aload_n 0, 1) := by decide +kernel
theorem dX12_give_105 : decode cX12_give 105 = .ok (.iload 4, 2) := by decide +kernel
theorem dX12_give_107 : decode cX12_give 107 = .ok (.invokevirtual 156, 3) := by decide +kernel
theorem dX12_give_110 : decode cX12_give 110 = .ok (.imul, 1) := by decide +kernel
theorem dX12_give_111 : decode cX12_give 111 = .ok (.iload_n 2, 1) := by decide +kernel
theorem dX12_give_112 : decode cX12_give 112 = .ok (.irem, 1) := by decide +kernel
theorem dX12_give_113 : decode cX12_give 113 = .ok (.iastore, 1) := by decide +kernel
theorem dX12_give_114 : decode cX12_give 114 = .ok (.iload_n 3, 1) := by decide +kernel
theorem dX12_give_115 : decode cX12_give 115 = .ok (.aload_n 0, 1) := by decide +kernel
theorem dX12_give_116 : decode cX12_give 116 = .ok (.getfield 26, 3) := by decide +kernel
theorem dX12_give_119 : decode cX12_give 119 = .ok (.iload 4, 2) := by decide +kernel
theorem dX12_give_121 : decode cX12_give 121 = .ok (.iaload, 1) := by decide +kernel
theorem dX12_give_122 : decode cX12_give 122 = .ok (.isub, 1) := by decide +kernel
theorem dX12_give_123 : decode cX12_give 123 = .ok (.istore_n 3, 1) := by decide +kernel
theorem dX12_give_124 : decode cX12_give 124 = .ok (.iinc 4 1, 3) := by decide +kernel
theorem dX12_give_127 : decode cX12_give 127 = .ok (.goto (-58), 3) := by decide +kernel
theorem dX12_give_130 : decode cX12_give 130 = .ok (.iload_n 3, 1) := by decide +kernel
theorem dX12_give_131 : decode cX12_give 131 = .ok (.ifCond .le 72, 3) := by decide +kernel
theorem dX12_give_134 : decode cX12_give 134 = .ok (.iconst 0, 1) := by decide +kernel
theorem dX12_give_135 : decode cX12_give 135 = .ok (.istore 4, 2) := by decide +kernel
theorem dX12_give_137 : decode cX12_give 137 = .ok (.iconst 1, 1) := by decide +kernel
theorem dX12_give_138 : decode cX12_give 138 = .ok (.istore 5, 2) := by decide +kernel
theorem dX12_give_140 : decode cX12_give 140 = .ok (.iload 5, 2) := by decide +kernel
theorem dX12_give_142 : decode cX12_give 142 = .ok (.aload_n 0, 1) := by decide +kernel
theorem dX12_give_143 : decode cX12_give 143 = .ok (.getfield 7, 3) := by decide +kernel
theorem dX12_give_146 : decode cX12_give 146 = .ok (.iconst 3, 1) := by decide +kernel
theorem dX12_give_147 : decode cX12_give 147 = .ok (.iaload, 1) := by decide +kernel
theorem dX12_give_148 : decode cX12_give 148 = .ok (.if_icmp .ge 30, 3) := by decide +kernel
theorem dX12_give_151 : decode cX12_give 151 = .ok (.aload_n 0, 1) := by decide +kernel
theorem dX12_give_152 : decode cX12_give 152 = .ok (.getfield 23, 3) := by decide +kernel
theorem dX12_give_155 : decode cX12_give 155 = .ok (.iload 5, 2) := by decide +kernel
theorem dX12_give_157 : decode cX12_give 157 = .ok (.iaload, 1) := by decide +kernel
theorem dX12_give_158 : decode cX12_give 158 = .ok (.aload_n 0, 1) := by decide +kernel
theorem dX12_give_159 : decode cX12_give 159 = .ok (.getfield 23, 3) := by decide +kernel
theorem dX12_give_162 : decode cX12_give 162 = .ok (.iload 4, 2) := by decide +kernel
theorem dX12_give_164 : decode cX12_give 164 = .ok (.iaload, 1) := by decide +kernel
theorem dX12_give_165 : decode cX12_give 165 = .ok (.if_icmp .le 7, 3) := by decide +kernel
theorem dX12_give_168 : decode cX12_give 168 = .ok (.iload 5, 2) := by decide +kernel
theorem dX12_give_170 : decode cX12_give 170 = .ok (.istore 4, 2) := by decide +kernel
theorem dX12_give_172 : decode cX12_give 172 = .ok (.iinc 5 1, 3) := by decide +kernel
theorem dX12_give_175 : decode cX12_give 175 = .ok (.goto (-35), 3) := by decide +kernel
theorem dX12_give_178 : decode cX12_give 178 = .ok (.aload_n 0, 1) := by decide +kernel
theorem dX12_give_179 : decode cX12_give 179 = .ok (.getfield 26, 3) := by decide +kernel
theorem dX12_give_182 : decode cX12_give 182 = .ok (.iload 4, 2) := by decide +kernel
theorem dX12_give_184 : decode cX12_give 184 = .ok (.dup2, 1) := by decide +kernel
theorem dX12_give_185 : decode cX12_give 185 = .ok (.iaload, 1) := by decide +kernel
theorem dX12_give_186 : decode cX12_give 186 = .ok (.iconst 1, 1) := by decide +kernel
theorem dX12_give_187 : decode cX12_give 187 = .ok (.iadd, 1) := by decide +kernel
theorem dX12_give_188 : decode cX12_give 188 = .ok (.iastore, 1) := by decide +kernel
theorem dX12_give_189 : decode cX12_give 189 = .ok (.aload_n 0, 1) := by decide +kernel
theorem dX12_give_190 : decode cX12_give 190 = .ok (.getfield 23, 3) := by decide +kernel
theorem dX12_give_193 : decode cX12_give 193 = .ok (.iload 4, 2) := by decide +kernel
theorem dX12_give_195 : decode cX12_give 195 = .ok (.iconst (-1), 1) := by decide +kernel
theorem dX12_give_196 : decode cX12_give 196 = .ok (.iastore, 1) := by decide +kernel
theorem dX12_give_197 : decode cX12_give 197 = .ok (.iinc 3 (-1), 3) := by decide +kernel
theorem dX12_give_200 : decode cX12_give 200 = .ok (.goto (-70), 3) := by decide +kernel
theorem dX12_give_203 : decode cX12_give 203 = .ok (.iconst 0, 1) := by decide +kernel
theorem dX12_give_204 : decode cX12_give 204 = .ok (.istore 4, 2) := by decide +kernel
theorem dX12_give_206 : decode cX12_give 206 = .ok (.iload 4, 2) := by decide +kernel
theorem dX12_give_208 : decode cX12_give 208 = .ok (.aload_n 0, 1) := by decide +kernel
theorem dX12_give_209 : decode cX12_give 209 = .ok (.getfield 7, 3) := by decide +kernel
theorem dX12_give_212 : decode cX12_give 212 = .ok (.iconst 3, 1) := by decide +kernel
theorem dX12_give_213 : decode cX12_give 213 = .ok (.iaload, 1) := by decide +kernel
theorem dX12_give_214 : decode cX12_give 214 = .ok (.if_icmp .ge 53, 3) := by decide +kernel
theorem dX12_give_217 : decode cX12_give 217 = .ok (.aload_n 0, 1) := by decide +kernel
theorem dX12_give_218 : decode cX12_give 218 = .ok (.getfield 7, 3) := by decide +kernel
theorem dX12_give_221 : decode cX12_give 221 = .ok (.bipush 20, 2) := by decide +kernel
theorem dX12_give_223 : decode cX12_give 223 = .ok (.bipush 8, 2) := by decide +kernel
theorem dX12_give_225 : decode cX12_give 225 = .ok (.iload 4, 2) := by decide +kernel
theorem dX12_give_227 : decode cX12_give 227 = .ok (.imul, 1) := by decide +kernel
theorem dX12_give_228 : decode cX12_give 228 = .ok (.iadd, 1) := by decide +kernel
theorem dX12_give_229 : decode cX12_give 229 = .ok (.iconst 2, 1) := by decide +kernel
theorem dX12_give_230 : decode cX12_give 230 = .ok (.iadd, 1) := by decide +kernel
theorem dX12_give_231 : decode cX12_give 231 = .ok (.aload_n 0, 1) := by decide +kernel
theorem dX12_give_232 : decode cX12_give 232 = .ok (.getfield 26, 3) := by decide +kernel
theorem dX12_give_235 : decode cX12_give 235 = .ok (.iload 4, 2) := by decide +kernel
theorem dX12_give_237 : decode cX12_give 237 = .ok (.iaload, 1) := by decide +kernel
theorem dX12_give_238 : decode cX12_give 238 = .ok (.iastore, 1) := by decide +kernel
theorem dX12_give_239 : decode cX12_give 239 = .ok (.aload_n 0, 1) := by decide +kernel
theorem dX12_give_240 : decode cX12_give 240 = .ok (.getfield 7, 3) := by decide +kernel
theorem dX12_give_243 : decode cX12_give 243 = .ok (.bipush 20, 2) := by decide +kernel
theorem dX12_give_245 : decode cX12_give 245 = .ok (.bipush 8, 2) := by decide +kernel
theorem dX12_give_247 : decode cX12_give 247 = .ok (.iload 4, 2) := by decide +kernel
theorem dX12_give_249 : decode cX12_give 249 = .ok (.imul, 1) := by decide +kernel
theorem dX12_give_250 : decode cX12_give 250 = .ok (.iadd, 1) := by decide +kernel
theorem dX12_give_251 : decode cX12_give 251 = .ok (.iconst 3, 1) := by decide +kernel
theorem dX12_give_252 : decode cX12_give 252 = .ok (.iadd, 1) := by decide +kernel
theorem dX12_give_253 : decode cX12_give 253 = .ok (.aload_n 0, 1) := by decide +kernel
theorem dX12_give_254 : decode cX12_give 254 = .ok (.getfield 26, 3) := by decide +kernel
theorem dX12_give_257 : decode cX12_give 257 = .ok (.iload 4, 2) := by decide +kernel
theorem dX12_give_259 : decode cX12_give 259 = .ok (.iaload, 1) := by decide +kernel
theorem dX12_give_260 : decode cX12_give 260 = .ok (.iastore, 1) := by decide +kernel
theorem dX12_give_261 : decode cX12_give 261 = .ok (.iinc 4 1, 3) := by decide +kernel
theorem dX12_give_264 : decode cX12_give 264 = .ok (.goto (-58), 3) := by decide +kernel
theorem dX12_give_267 : decode cX12_give 267 = .ok (.aload_n 0, 1) := by decide +kernel
theorem dX12_give_268 : decode cX12_give 268 = .ok (.getfield 7, 3) := by decide +kernel
theorem dX12_give_271 : decode cX12_give 271 = .ok (.iconst 2, 1) := by decide +kernel
theorem dX12_give_272 : decode cX12_give 272 = .ok (.iload_n 1, 1) := by decide +kernel
theorem dX12_give_273 : decode cX12_give 273 = .ok (.iastore, 1) := by decide +kernel
theorem dX12_give_274 : decode cX12_give 274 = .ok (.iconst 1, 1) := by decide +kernel
theorem dX12_give_275 : decode cX12_give 275 = .ok (.ireturn, 1) := by decide +kernel
theorem dX12_its_0 : decode cX12_its 0 = .ok (.aload_n 0, 1) := by decide +kernel
theorem dX12_its_1 : decode cX12_its 1 = .ok (.getfield 7, 3) := by decide +kernel
theorem dX12_its_4 : decode cX12_its 4 = .ok (.bipush 90, 2) := by decide +kernel
theorem dX12_its_6 : decode cX12_its 6 = .ok (.bipush 9, 2) := by decide +kernel
theorem dX12_its_8 : decode cX12_its 8 = .ok (.iload_n 1, 1) := by decide +kernel
theorem dX12_its_9 : decode cX12_its 9 = .ok (.imul, 1) := by decide +kernel
theorem dX12_its_10 : decode cX12_its 10 = .ok (.iadd, 1) := by decide +kernel
theorem dX12_its_11 : decode cX12_its 11 = .ok (.iload_n 2, 1) := by decide +kernel
theorem dX12_its_12 : decode cX12_its 12 = .ok (.iadd, 1) := by decide +kernel
theorem dX12_its_13 : decode cX12_its 13 = .ok (.iaload, 1) := by decide +kernel
theorem dX12_its_14 : decode cX12_its 14 = .ok (.ireturn, 1) := by decide +kernel
theorem dX12_sets_0 : decode cX12_sets 0 = .ok (.aload_n 0, 1) := by decide +kernel
theorem dX12_sets_1 : decode cX12_sets 1 = .ok (.getfield 7, 3) := by decide +kernel
theorem dX12_sets_4 : decode cX12_sets 4 = .ok (.bipush 90, 2) := by decide +kernel
theorem dX12_sets_6 : decode cX12_sets 6 = .ok (.bipush 9, 2) := by decide +kernel
theorem dX12_sets_8 : decode cX12_sets 8 = .ok (.iload_n 1, 1) := by decide +kernel
theorem dX12_sets_9 : decode cX12_sets 9 = .ok (.imul, 1) := by decide +kernel
theorem dX12_sets_10 : decode cX12_sets 10 = .ok (.iadd, 1) := by decide +kernel
theorem dX12_sets_11 : decode cX12_sets 11 = .ok (.iload_n 2, 1) := by decide +kernel
theorem dX12_sets_12 : decode cX12_sets 12 = .ok (.iadd, 1) := by decide +kernel
theorem dX12_sets_13 : decode cX12_sets 13 = .ok (.iload_n 3, 1) := by decide +kernel
theorem dX12_sets_14 : decode cX12_sets 14 = .ok (.iastore, 1) := by decide +kernel
theorem dX12_sets_15 : decode cX12_sets 15 = .ok (.return_, 1) := by decide +kernel
set_option maxRecDepth 20000 in
theorem ggX12_isBale_X12_isIn : GoodIn wsX12_isBale wsX12_isIn := goodIn_r _ [5] (by decide +kernel) (by decide +kernel)
set_option maxRecDepth 20000 in
theorem gX12_isBale_X12_isIn : GoodIn wsX12_isBale (va_wsS RX12 114 yX12_isIn wsX12_isIn) := goodIn_app (goodIn_of _ (by decide +kernel)) ggX12_isBale_X12_isIn
theorem dX12_isBale_0 : decode cX12_isBale 0 = .ok (.iload_n 1, 1) := by decide +kernel
theorem dX12_isBale_1 : decode cX12_isBale 1 = .ok (.iconst 0, 1) := by decide +kernel
theorem dX12_isBale_2 : decode cX12_isBale 2 = .ok (.aload_n 0, 1) := by decide +kernel
theorem dX12_isBale_3 : decode cX12_isBale 3 = .ok (.getfield 7, 3) := by decide +kernel
theorem dX12_isBale_6 : decode cX12_isBale 6 = .ok (.iconst 4, 1) := by decide +kernel
theorem dX12_isBale_7 : decode cX12_isBale 7 = .ok (.iaload, 1) := by decide +kernel
theorem dX12_isBale_8 : decode cX12_isBale 8 = .ok (.iconst 1, 1) := by decide +kernel
theorem dX12_isBale_9 : decode cX12_isBale 9 = .ok (.isub, 1) := by decide +kernel
theorem dX12_isBale_10 : decode cX12_isBale 10 = .ok (.invokestatic 114, 3) := by decide +kernel
theorem dX12_isBale_13 : decode cX12_isBale 13 = .ok (.ireturn, 1) := by decide +kernel
set_option maxRecDepth 20000 in
theorem ggX12_lies_X12_its : GoodIn wsX12_lies wsX12_its := goodIn_r _ [5, 6, 7, 8, 9, 10, 11, 12, 13, 14, 15, 16, 17, 18, 19, 20, 21, 22, 23, 24, 25, 26, 27] (by decide +kernel) (by decide +kernel)
set_option maxRecDepth 20000 in
theorem gX12_lies_X12_its : GoodIn wsX12_lies (wsV RX12 159 RX12 yX12_its wsX12_its) := goodIn_app (goodIn_of _ (by decide +kernel)) ggX12_lies_X12_its
theorem dX12_lies_0 : decode cX12_lies 0 = .ok (.aload_n 0, 1) := by decide +kernel
theorem dX12_lies_1 : decode cX12_lies 1 = .ok (.iload_n 1, 1) := by decide +kernel
theorem dX12_lies_2 : decode cX12_lies 2 = .ok (.iconst 5, 1) := by decide +kernel
theorem dX12_lies_3 : decode cX12_lies 3 = .ok (.invokevirtual 159, 3) := by decide +kernel
theorem dX12_lies_6 : decode cX12_lies 6 = .ok (.ifCond .lt 7, 3) := by decide +kernel
theorem dX12_lies_9 : decode cX12_lies 9 = .ok (.iconst 1, 1) := by decide +kernel
theorem dX12_lies_10 : decode cX12_lies 10 = .ok (.goto 4, 3) := by decide +kernel
theorem dX12_lies_13 : decode cX12_lies 13 = .ok (.iconst 0, 1) := by decide +kernel
theorem dX12_lies_14 : decode cX12_lies 14 = .ok (.ireturn, 1) := by decide +kernel
set_option maxRecDepth 20000 in
theorem ggX12_room_X12_its : GoodIn wsX12_room wsX12_its := goodIn_r _ [5, 6, 7, 8, 9, 10, 11, 12, 13, 14, 15, 16, 17, 18, 19, 20, 21, 22, 23, 24, 25, 26, 27] (by decide +kernel) (by decide +kernel)
set_option maxRecDepth 20000 in
theorem gX12_room_X12_its : GoodIn wsX12_room (wsV RX12 159 RX12 yX12_its wsX12_its) := goodIn_app (goodIn_of _ (by decide +kernel)) ggX12_room_X12_its
theorem dX12_room_0 : decode cX12_room 0 = .ok (.aload_n 0, 1) := by decide +kernel
theorem dX12_room_1 : decode cX12_room 1 = .ok (.iload_n 1, 1) := by decide +kernel
theorem dX12_room_2 : decode cX12_room 2 = .ok (.iconst 1, 1) := by decide +kernel
theorem dX12_room_3 : decode cX12_room 3 = .ok (.invokevirtual 159, 3) := by decide +kernel
theorem dX12_room_6 : decode cX12_room 6 = .ok (.aload_n 0, 1) := by decide +kernel
theorem dX12_room_7 : decode cX12_room 7 = .ok (.iload_n 1, 1) := by decide +kernel
theorem dX12_room_8 : decode cX12_room 8 = .ok (.iconst 1, 1) := by decide +kernel
theorem dX12_room_9 : decode cX12_room 9 = .ok (.invokevirtual 159, 3) := by decide +kernel
theorem dX12_room_12 : decode cX12_room 12 = .ok (.aload_n 0, 1) := by decide +kernel
theorem dX12_room_13 : decode cX12_room 13 = .ok (.iload_n 1, 1) := by decide +kernel
theorem dX12_room_14 : decode cX12_room 14 = .ok (.iconst 4, 1) := by decide +kernel
theorem dX12_room_15 : decode cX12_room 15 = .ok (.invokevirtual 159, 3) := by decide +kernel
theorem dX12_room_18 : decode cX12_room 18 = .ok (.imul, 1) := by decide +kernel
theorem dX12_room_19 : decode cX12_room 19 = .ok (.bipush 10, 2) := by decide +kernel
theorem dX12_room_21 : decode cX12_room 21 = .ok (.idiv, 1) := by decide +kernel
theorem dX12_room_22 : decode cX12_room 22 = .ok (.isub, 1) := by decide +kernel
theorem dX12_room_23 : decode cX12_room 23 = .ok (.ireturn, 1) := by decide +kernel
set_option maxRecDepth 20000 in
theorem ggX12_value_X12_its : GoodIn wsX12_value wsX12_its := goodIn_r _ [5, 6, 7, 8, 9, 10, 11, 12, 13, 14, 15, 16, 17, 18, 19, 20, 21, 22, 23, 24, 25, 26, 27] (by decide +kernel) (by decide +kernel)
set_option maxRecDepth 20000 in
theorem gX12_value_X12_its : GoodIn wsX12_value (wsV RX12 159 RX12 yX12_its wsX12_its) := goodIn_app (goodIn_of _ (by decide +kernel)) ggX12_value_X12_its
theorem dX12_value_0 : decode cX12_value 0 = .ok (.aload_n 0, 1) := by decide +kernel
theorem dX12_value_1 : decode cX12_value 1 = .ok (.iload_n 1, 1) := by decide +kernel
theorem dX12_value_2 : decode cX12_value 2 = .ok (.iconst 3, 1) := by decide +kernel
theorem dX12_value_3 : decode cX12_value 3 = .ok (.invokevirtual 159, 3) := by decide +kernel
theorem dX12_value_6 : decode cX12_value 6 = .ok (.aload_n 0, 1) := by decide +kernel
theorem dX12_value_7 : decode cX12_value 7 = .ok (.iload_n 1, 1) := by decide +kernel
theorem dX12_value_8 : decode cX12_value 8 = .ok (.iconst 3, 1) := by decide +kernel
theorem dX12_value_9 : decode cX12_value 9 = .ok (.invokevirtual 159, 3) := by decide +kernel
theorem dX12_value_12 : decode cX12_value 12 = .ok (.aload_n 0, 1) := by decide +kernel
theorem dX12_value_13 : decode cX12_value 13 = .ok (.iload_n 1, 1) := by decide +kernel
theorem dX12_value_14 : decode cX12_value 14 = .ok (.iconst 4, 1) := by decide +kernel
theorem dX12_value_15 : decode cX12_value 15 = .ok (.invokevirtual 159, 3) := by decide +kernel
theorem dX12_value_18 : decode cX12_value 18 = .ok (.imul, 1) := by decide +kernel
theorem dX12_value_19 : decode cX12_value 19 = .ok (.bipush 20, 2) := by decide +kernel
theorem dX12_value_21 : decode cX12_value 21 = .ok (.idiv, 1) := by decide +kernel
theorem dX12_value_22 : decode cX12_value 22 = .ok (.isub, 1) := by decide +kernel
theorem dX12_value_23 : decode cX12_value 23 = .ok (.ireturn, 1) := by decide +kernel
set_option maxRecDepth 20000 in
theorem ggX12_free_X12_of : GoodIn wsX12_free wsX12_of := goodIn_r _ [6, 1, 15, 16, 17, 18, 19, 20, 21, 22, 23, 24, 25, 26, 27, 28, 29, 30, 31, 32, 33, 34, 35] (by decide +kernel) (by decide +kernel)
set_option maxRecDepth 20000 in
theorem gX12_free_X12_of : GoodIn wsX12_free (wsV RX12 145 RX12 yX12_of wsX12_of) := goodIn_app (goodIn_of _ (by decide +kernel)) ggX12_free_X12_of
set_option maxRecDepth 20000 in
theorem ggX12_free_X12_its : GoodIn wsX12_free wsX12_its := goodIn_r _ [10, 1, 15, 16, 17, 18, 19, 20, 21, 22, 23, 24, 25, 26, 27, 28, 29, 30, 31, 32, 33, 34, 35] (by decide +kernel) (by decide +kernel)
set_option maxRecDepth 20000 in
theorem gX12_free_X12_its : GoodIn wsX12_free (wsV RX12 159 RX12 yX12_its wsX12_its) := goodIn_app (goodIn_of _ (by decide +kernel)) ggX12_free_X12_its
set_option maxRecDepth 20000 in
theorem ggX12_free_X12_room : GoodIn wsX12_free wsX12_room := goodIn_r _ [14, 7, 8, 9, 5, 10, 1, 15, 16, 17, 18, 19, 20, 21, 22, 23, 24, 25, 26, 27, 28, 29, 30, 31, 32, 33, 34, 35] (by decide +kernel) (by decide +kernel)
set_option maxRecDepth 20000 in
theorem gX12_free_X12_room : GoodIn wsX12_free (wsV RX12 162 RX12 yX12_room wsX12_room) := goodIn_app (goodIn_of _ (by decide +kernel)) ggX12_free_X12_room
theorem dX12_free_0 : decode cX12_free 0 = .ok (.aload_n 0, 1) := by decide +kernel
theorem dX12_free_1 : decode cX12_free 1 = .ok (.iload_n 1, 1) := by decide +kernel
theorem dX12_free_2 : decode cX12_free 2 = .ok (.iconst 2, 1) := by decide +kernel
theorem dX12_free_3 : decode cX12_free 3 = .ok (.invokevirtual 145, 3) := by decide +kernel
theorem dX12_free_6 : decode cX12_free 6 = .ok (.istore_n 2, 1) := by decide +kernel
theorem dX12_free_7 : decode cX12_free 7 = .ok (.iconst 0, 1) := by decide +kernel
theorem dX12_free_8 : decode cX12_free 8 = .ok (.istore_n 3, 1) := by decide +kernel
theorem dX12_free_9 : decode cX12_free 9 = .ok (.iload_n 3, 1) := by decide +kernel
theorem dX12_free_10 : decode cX12_free 10 = .ok (.aload_n 0, 1) := by decide +kernel
theorem dX12_free_11 : decode cX12_free 11 = .ok (.getfield 7, 3) := by decide +kernel
theorem dX12_free_14 : decode cX12_free 14 = .ok (.iconst 4, 1) := by decide +kernel
theorem dX12_free_15 : decode cX12_free 15 = .ok (.iaload, 1) := by decide +kernel
theorem dX12_free_16 : decode cX12_free 16 = .ok (.if_icmp .ge 27, 3) := by decide +kernel
theorem dX12_free_19 : decode cX12_free 19 = .ok (.aload_n 0, 1) := by decide +kernel
theorem dX12_free_20 : decode cX12_free 20 = .ok (.iload_n 3, 1) := by decide +kernel
theorem dX12_free_21 : decode cX12_free 21 = .ok (.iconst 5, 1) := by decide +kernel
theorem dX12_free_22 : decode cX12_free 22 = .ok (.invokevirtual 159, 3) := by decide +kernel
theorem dX12_free_25 : decode cX12_free 25 = .ok (.iload_n 1, 1) := by decide +kernel
theorem dX12_free_26 : decode cX12_free 26 = .ok (.if_icmp .ne 11, 3) := by decide +kernel
theorem dX12_free_29 : decode cX12_free 29 = .ok (.iload_n 2, 1) := by decide +kernel
theorem dX12_free_30 : decode cX12_free 30 = .ok (.aload_n 0, 1) := by decide +kernel
theorem dX12_free_31 : decode cX12_free 31 = .ok (.iload_n 3, 1) := by decide +kernel
theorem dX12_free_32 : decode cX12_free 32 = .ok (.invokevirtual 162, 3) := by decide +kernel
theorem dX12_free_35 : decode cX12_free 35 = .ok (.isub, 1) := by decide +kernel
theorem dX12_free_36 : decode cX12_free 36 = .ok (.istore_n 2, 1) := by decide +kernel
theorem dX12_free_37 : decode cX12_free 37 = .ok (.iinc 3 1, 3) := by decide +kernel
theorem dX12_free_40 : decode cX12_free 40 = .ok (.goto (-31), 3) := by decide +kernel
theorem dX12_free_43 : decode cX12_free 43 = .ok (.iload_n 2, 1) := by decide +kernel
theorem dX12_free_44 : decode cX12_free 44 = .ok (.ireturn, 1) := by decide +kernel
set_option maxRecDepth 20000 in
theorem ggX12_sell_X12_isCitizen : GoodIn wsX12_sell wsX12_isCitizen := goodIn_r _ [6, 1, 7, 8, 5, 9, 30, 31, 32, 33, 34, 35, 36, 37, 38, 39, 40, 41, 42, 43, 44, 45, 46, 47, 48, 49, 50] (by decide +kernel) (by decide +kernel)
set_option maxRecDepth 20000 in
theorem gX12_sell_X12_isCitizen : GoodIn wsX12_sell (wsV RX12 165 RX12 yX12_isCitizen wsX12_isCitizen) := goodIn_app (goodIn_of _ (by decide +kernel)) ggX12_sell_X12_isCitizen
set_option maxRecDepth 20000 in
theorem ggX12_sell_X12_free : GoodIn wsX12_sell wsX12_free := goodIn_r _ [13, 1, 14, 15, 16, 5, 17, 18, 19, 20, 21, 22, 23, 24, 25, 30, 31, 32, 33, 34, 35, 36, 37, 38, 39, 40, 41, 42, 43, 44, 45, 46, 47, 48, 49, 50] (by decide +kernel) (by decide +kernel)
set_option maxRecDepth 20000 in
theorem gX12_sell_X12_free : GoodIn wsX12_sell (wsV RX12 168 RX12 yX12_free wsX12_free) := goodIn_app (goodIn_of _ (by decide +kernel)) ggX12_sell_X12_free
set_option maxRecDepth 20000 in
theorem ggX12_sell_X12_isIn : GoodIn wsX12_sell wsX12_isIn := goodIn_r _ [9] (by decide +kernel) (by decide +kernel)
set_option maxRecDepth 20000 in
theorem gX12_sell_X12_isIn : GoodIn wsX12_sell (va_wsS RX12 114 yX12_isIn wsX12_isIn) := goodIn_app (goodIn_of _ (by decide +kernel)) ggX12_sell_X12_isIn
set_option maxRecDepth 20000 in
theorem ggX12_sell_X12_adds : GoodIn wsX12_sell wsX12_adds := goodIn_r _ [29, 1, 30, 31, 32, 33, 34, 35, 36, 37, 38, 39, 40, 41, 42, 43, 44, 45, 46, 47, 48, 49, 50] (by decide +kernel) (by decide +kernel)
set_option maxRecDepth 20000 in
theorem gX12_sell_X12_adds : GoodIn wsX12_sell (wsV RX12 171 RX12 yX12_adds wsX12_adds) := goodIn_app (goodIn_of _ (by decide +kernel)) ggX12_sell_X12_adds
theorem dX12_sell_0 : decode cX12_sell 0 = .ok (.aload_n 0, 1) := by decide +kernel
theorem dX12_sell_1 : decode cX12_sell 1 = .ok (.getfield 7, 3) := by decide +kernel
theorem dX12_sell_4 : decode cX12_sell 4 = .ok (.iconst 1, 1) := by decide +kernel
theorem dX12_sell_5 : decode cX12_sell 5 = .ok (.iaload, 1) := by decide +kernel
theorem dX12_sell_6 : decode cX12_sell 6 = .ok (.iconst 1, 1) := by decide +kernel
theorem dX12_sell_7 : decode cX12_sell 7 = .ok (.if_icmp .eq 50, 3) := by decide +kernel
theorem dX12_sell_10 : decode cX12_sell 10 = .ok (.aload_n 0, 1) := by decide +kernel
theorem dX12_sell_11 : decode cX12_sell 11 = .ok (.iload_n 1, 1) := by decide +kernel
theorem dX12_sell_12 : decode cX12_sell 12 = .ok (.invokevirtual 165, 3) := by decide +kernel
theorem dX12_sell_15 : decode cX12_sell 15 = .ok (.ifCond .eq 42, 3) := by decide +kernel
theorem dX12_sell_18 : decode cX12_sell 18 = .ok (.aload_n 0, 1) := by decide +kernel
theorem dX12_sell_19 : decode cX12_sell 19 = .ok (.iload_n 2, 1) := by decide +kernel
theorem dX12_sell_20 : decode cX12_sell 20 = .ok (.invokevirtual 165, 3) := by decide +kernel
theorem dX12_sell_23 : decode cX12_sell 23 = .ok (.ifCond .eq 34, 3) := by decide +kernel
theorem dX12_sell_26 : decode cX12_sell 26 = .ok (.iload_n 1, 1) := by decide +kernel
theorem dX12_sell_27 : decode cX12_sell 27 = .ok (.iload_n 2, 1) := by decide +kernel
theorem dX12_sell_28 : decode cX12_sell 28 = .ok (.if_icmp .eq 29, 3) := by decide +kernel
theorem dX12_sell_31 : decode cX12_sell 31 = .ok (.iload_n 3, 1) := by decide +kernel
theorem dX12_sell_32 : decode cX12_sell 32 = .ok (.iconst 1, 1) := by decide +kernel
theorem dX12_sell_33 : decode cX12_sell 33 = .ok (.if_icmp .lt 24, 3) := by decide +kernel
theorem dX12_sell_36 : decode cX12_sell 36 = .ok (.iload_n 3, 1) := by decide +kernel
theorem dX12_sell_37 : decode cX12_sell 37 = .ok (.aload_n 0, 1) := by decide +kernel
theorem dX12_sell_38 : decode cX12_sell 38 = .ok (.iload_n 1, 1) := by decide +kernel
theorem dX12_sell_39 : decode cX12_sell 39 = .ok (.invokevirtual 168, 3) := by decide +kernel
theorem dX12_sell_42 : decode cX12_sell 42 = .ok (.if_icmp .gt 15, 3) := by decide +kernel
theorem dX12_sell_45 : decode cX12_sell 45 = .ok (.iload 4, 2) := by decide +kernel
theorem dX12_sell_47 : decode cX12_sell 47 = .ok (.iconst 0, 1) := by decide +kernel
theorem dX12_sell_48 : decode cX12_sell 48 = .ok (.sipush 10000, 3) := by decide +kernel
theorem dX12_sell_51 : decode cX12_sell 51 = .ok (.invokestatic 114, 3) := by decide +kernel
theorem dX12_sell_54 : decode cX12_sell 54 = .ok (.ifCond .ne 5, 3) := by decide +kernel
theorem dX12_sell_57 : decode cX12_sell 57 = .ok (.iconst 0, 1) := by decide +kernel
theorem dX12_sell_58 : decode cX12_sell 58 = .ok (.ireturn, 1) := by decide +kernel
theorem dX12_sell_59 : decode cX12_sell 59 = .ok (.aload_n 0, 1) := by decide +kernel
theorem dX12_sell_60 : decode cX12_sell 60 = .ok (.iload_n 1, 1) := by decide +kernel
theorem dX12_sell_61 : decode cX12_sell 61 = .ok (.iconst 2, 1) := by decide +kernel
theorem dX12_sell_62 : decode cX12_sell 62 = .ok (.iload_n 3, 1) := by decide +kernel
theorem dX12_sell_63 : decode cX12_sell 63 = .ok (.ineg, 1) := by decide +kernel
theorem dX12_sell_64 : decode cX12_sell 64 = .ok (.invokevirtual 171, 3) := by decide +kernel
theorem dX12_sell_67 : decode cX12_sell 67 = .ok (.aload_n 0, 1) := by decide +kernel
theorem dX12_sell_68 : decode cX12_sell 68 = .ok (.iload_n 2, 1) := by decide +kernel
theorem dX12_sell_69 : decode cX12_sell 69 = .ok (.iconst 2, 1) := by decide +kernel
theorem dX12_sell_70 : decode cX12_sell 70 = .ok (.iload_n 3, 1) := by decide +kernel
theorem dX12_sell_71 : decode cX12_sell 71 = .ok (.invokevirtual 171, 3) := by decide +kernel
theorem dX12_sell_74 : decode cX12_sell 74 = .ok (.aload_n 0, 1) := by decide +kernel
theorem dX12_sell_75 : decode cX12_sell 75 = .ok (.iload_n 1, 1) := by decide +kernel
theorem dX12_sell_76 : decode cX12_sell 76 = .ok (.iconst 4, 1) := by decide +kernel
theorem dX12_sell_77 : decode cX12_sell 77 = .ok (.iload 4, 2) := by decide +kernel
theorem dX12_sell_79 : decode cX12_sell 79 = .ok (.invokevirtual 171, 3) := by decide +kernel
theorem dX12_sell_82 : decode cX12_sell 82 = .ok (.aload_n 0, 1) := by decide +kernel
theorem dX12_sell_83 : decode cX12_sell 83 = .ok (.iload_n 2, 1) := by decide +kernel
theorem dX12_sell_84 : decode cX12_sell 84 = .ok (.iconst 4, 1) := by decide +kernel
theorem dX12_sell_85 : decode cX12_sell 85 = .ok (.iload 4, 2) := by decide +kernel
theorem dX12_sell_87 : decode cX12_sell 87 = .ok (.ineg, 1) := by decide +kernel
theorem dX12_sell_88 : decode cX12_sell 88 = .ok (.invokevirtual 171, 3) := by decide +kernel
theorem dX12_sell_91 : decode cX12_sell 91 = .ok (.iconst 1, 1) := by decide +kernel
theorem dX12_sell_92 : decode cX12_sell 92 = .ok (.ireturn, 1) := by decide +kernel
set_option maxRecDepth 20000 in
theorem ggX12_bale_X12_isCitizen : GoodIn wsX12_bale wsX12_isCitizen := goodIn_r _ [6, 1, 7, 8, 5, 9, 14, 15, 16, 17, 18, 19, 20, 21, 22, 23, 24, 25, 26, 27, 28, 29, 30, 31, 32, 33, 34] (by decide +kernel) (by decide +kernel)
set_option maxRecDepth 20000 in
theorem gX12_bale_X12_isCitizen : GoodIn wsX12_bale (wsV RX12 165 RX12 yX12_isCitizen wsX12_isCitizen) := goodIn_app (goodIn_of _ (by decide +kernel)) ggX12_bale_X12_isCitizen
set_option maxRecDepth 20000 in
theorem ggX12_bale_X12_isIn : GoodIn wsX12_bale wsX12_isIn := goodIn_r _ [9] (by decide +kernel) (by decide +kernel)
set_option maxRecDepth 20000 in
theorem gX12_bale_X12_isIn : GoodIn wsX12_bale (va_wsS RX12 114 yX12_isIn wsX12_isIn) := goodIn_app (goodIn_of _ (by decide +kernel)) ggX12_bale_X12_isIn
set_option maxRecDepth 20000 in
theorem ggX12_bale_X12_sets : GoodIn wsX12_bale wsX12_sets := goodIn_r _ [13, 1, 14, 15, 16, 17, 18, 19, 20, 21, 22, 23, 24, 25, 26, 27, 28, 29, 30, 31, 32, 33, 34] (by decide +kernel) (by decide +kernel)
set_option maxRecDepth 20000 in
theorem gX12_bale_X12_sets : GoodIn wsX12_bale (wsV RX12 175 RX12 yX12_sets wsX12_sets) := goodIn_app (goodIn_of _ (by decide +kernel)) ggX12_bale_X12_sets
theorem dX12_bale_0 : decode cX12_bale 0 = .ok (.aload_n 0, 1) := by decide +kernel
theorem dX12_bale_1 : decode cX12_bale 1 = .ok (.getfield 7, 3) := by decide +kernel
theorem dX12_bale_4 : decode cX12_bale 4 = .ok (.iconst 1, 1) := by decide +kernel
theorem dX12_bale_5 : decode cX12_bale 5 = .ok (.iaload, 1) := by decide +kernel
theorem dX12_bale_6 : decode cX12_bale 6 = .ok (.iconst 1, 1) := by decide +kernel
theorem dX12_bale_7 : decode cX12_bale 7 = .ok (.if_icmp .eq 55, 3) := by decide +kernel
theorem dX12_bale_10 : decode cX12_bale 10 = .ok (.aload_n 0, 1) := by decide +kernel
theorem dX12_bale_11 : decode cX12_bale 11 = .ok (.getfield 7, 3) := by decide +kernel
theorem dX12_bale_14 : decode cX12_bale 14 = .ok (.iconst 4, 1) := by decide +kernel
theorem dX12_bale_15 : decode cX12_bale 15 = .ok (.iaload, 1) := by decide +kernel
theorem dX12_bale_16 : decode cX12_bale 16 = .ok (.bipush 12, 2) := by decide +kernel
theorem dX12_bale_18 : decode cX12_bale 18 = .ok (.if_icmp .eq 44, 3) := by decide +kernel
theorem dX12_bale_21 : decode cX12_bale 21 = .ok (.aload_n 0, 1) := by decide +kernel
theorem dX12_bale_22 : decode cX12_bale 22 = .ok (.iload_n 1, 1) := by decide +kernel
theorem dX12_bale_23 : decode cX12_bale 23 = .ok (.invokevirtual 165, 3) := by decide +kernel
theorem dX12_bale_26 : decode cX12_bale 26 = .ok (.ifCond .eq 36, 3) := by decide +kernel
theorem dX12_bale_29 : decode cX12_bale 29 = .ok (.iload_n 2, 1) := by decide +kernel
theorem dX12_bale_30 : decode cX12_bale 30 = .ok (.iconst 1, 1) := by decide +kernel
theorem dX12_bale_31 : decode cX12_bale 31 = .ok (.bipush 40, 2) := by decide +kernel
theorem dX12_bale_33 : decode cX12_bale 33 = .ok (.invokestatic 114, 3) := by decide +kernel
theorem dX12_bale_36 : decode cX12_bale 36 = .ok (.ifCond .eq 26, 3) := by decide +kernel
theorem dX12_bale_39 : decode cX12_bale 39 = .ok (.iload_n 3, 1) := by decide +kernel
theorem dX12_bale_40 : decode cX12_bale 40 = .ok (.iconst 1, 1) := by decide +kernel
theorem dX12_bale_41 : decode cX12_bale 41 = .ok (.sipush 200, 3) := by decide +kernel
theorem dX12_bale_44 : decode cX12_bale 44 = .ok (.invokestatic 114, 3) := by decide +kernel
theorem dX12_bale_47 : decode cX12_bale 47 = .ok (.ifCond .eq 15, 3) := by decide +kernel
theorem dX12_bale_50 : decode cX12_bale 50 = .ok (.iload 4, 2) := by decide +kernel
theorem dX12_bale_52 : decode cX12_bale 52 = .ok (.iconst 1, 1) := by decide +kernel
theorem dX12_bale_53 : decode cX12_bale 53 = .ok (.sipush 1000, 3) := by decide +kernel
theorem dX12_bale_56 : decode cX12_bale 56 = .ok (.invokestatic 114, 3) := by decide +kernel
theorem dX12_bale_59 : decode cX12_bale 59 = .ok (.ifCond .ne 5, 3) := by decide +kernel
theorem dX12_bale_62 : decode cX12_bale 62 = .ok (.iconst (-1), 1) := by decide +kernel
theorem dX12_bale_63 : decode cX12_bale 63 = .ok (.ireturn, 1) := by decide +kernel
theorem dX12_bale_64 : decode cX12_bale 64 = .ok (.aload_n 0, 1) := by decide +kernel
theorem dX12_bale_65 : decode cX12_bale 65 = .ok (.getfield 7, 3) := by decide +kernel
theorem dX12_bale_68 : decode cX12_bale 68 = .ok (.iconst 4, 1) := by decide +kernel
theorem dX12_bale_69 : decode cX12_bale 69 = .ok (.iaload, 1) := by decide +kernel
theorem dX12_bale_70 : decode cX12_bale 70 = .ok (.istore 5, 2) := by decide +kernel
theorem dX12_bale_72 : decode cX12_bale 72 = .ok (.aload_n 0, 1) := by decide +kernel
theorem dX12_bale_73 : decode cX12_bale 73 = .ok (.getfield 7, 3) := by decide +kernel
theorem dX12_bale_76 : decode cX12_bale 76 = .ok (.iconst 4, 1) := by decide +kernel
theorem dX12_bale_77 : decode cX12_bale 77 = .ok (.dup2, 1) := by decide +kernel
theorem dX12_bale_78 : decode cX12_bale 78 = .ok (.iaload, 1) := by decide +kernel
theorem dX12_bale_79 : decode cX12_bale 79 = .ok (.iconst 1, 1) := by decide +kernel
theorem dX12_bale_80 : decode cX12_bale 80 = .ok (.iadd, 1) := by decide +kernel
theorem dX12_bale_81 : decode cX12_bale 81 = .ok (.iastore, 1) := by decide +kernel
theorem dX12_bale_82 : decode cX12_bale 82 = .ok (.aload_n 0, 1) := by decide +kernel
theorem dX12_bale_83 : decode cX12_bale 83 = .ok (.iload 5, 2) := by decide +kernel
theorem dX12_bale_85 : decode cX12_bale 85 = .ok (.iconst 0, 1) := by decide +kernel
theorem dX12_bale_86 : decode cX12_bale 86 = .ok (.iload_n 1, 1) := by decide +kernel
theorem dX12_bale_87 : decode cX12_bale 87 = .ok (.invokevirtual 175, 3) := by decide +kernel
theorem dX12_bale_90 : decode cX12_bale 90 = .ok (.aload_n 0, 1) := by decide +kernel
theorem dX12_bale_91 : decode cX12_bale 91 = .ok (.iload 5, 2) := by decide +kernel
theorem dX12_bale_93 : decode cX12_bale 93 = .ok (.iconst 1, 1) := by decide +kernel
theorem dX12_bale_94 : decode cX12_bale 94 = .ok (.iload_n 2, 1) := by decide +kernel
theorem dX12_bale_95 : decode cX12_bale 95 = .ok (.invokevirtual 175, 3) := by decide +kernel
theorem dX12_bale_98 : decode cX12_bale 98 = .ok (.aload_n 0, 1) := by decide +kernel
theorem dX12_bale_99 : decode cX12_bale 99 = .ok (.iload 5, 2) := by decide +kernel
theorem dX12_bale_101 : decode cX12_bale 101 = .ok (.iconst 2, 1) := by decide +kernel
theorem dX12_bale_102 : decode cX12_bale 102 = .ok (.iload_n 3, 1) := by decide +kernel
theorem dX12_bale_103 : decode cX12_bale 103 = .ok (.invokevirtual 175, 3) := by decide +kernel
theorem dX12_bale_106 : decode cX12_bale 106 = .ok (.aload_n 0, 1) := by decide +kernel
theorem dX12_bale_107 : decode cX12_bale 107 = .ok (.iload 5, 2) := by decide +kernel
theorem dX12_bale_109 : decode cX12_bale 109 = .ok (.iconst 3, 1) := by decide +kernel
theorem dX12_bale_110 : decode cX12_bale 110 = .ok (.iload 4, 2) := by decide +kernel
theorem dX12_bale_112 : decode cX12_bale 112 = .ok (.invokevirtual 175, 3) := by decide +kernel
theorem dX12_bale_115 : decode cX12_bale 115 = .ok (.aload_n 0, 1) := by decide +kernel
theorem dX12_bale_116 : decode cX12_bale 116 = .ok (.iload 5, 2) := by decide +kernel
theorem dX12_bale_118 : decode cX12_bale 118 = .ok (.iconst 4, 1) := by decide +kernel
theorem dX12_bale_119 : decode cX12_bale 119 = .ok (.iconst 0, 1) := by decide +kernel
theorem dX12_bale_120 : decode cX12_bale 120 = .ok (.invokevirtual 175, 3) := by decide +kernel
theorem dX12_bale_123 : decode cX12_bale 123 = .ok (.aload_n 0, 1) := by decide +kernel
theorem dX12_bale_124 : decode cX12_bale 124 = .ok (.iload 5, 2) := by decide +kernel
theorem dX12_bale_126 : decode cX12_bale 126 = .ok (.iconst 5, 1) := by decide +kernel
theorem dX12_bale_127 : decode cX12_bale 127 = .ok (.iconst (-1), 1) := by decide +kernel
theorem dX12_bale_128 : decode cX12_bale 128 = .ok (.invokevirtual 175, 3) := by decide +kernel
theorem dX12_bale_131 : decode cX12_bale 131 = .ok (.aload_n 0, 1) := by decide +kernel
theorem dX12_bale_132 : decode cX12_bale 132 = .ok (.iload 5, 2) := by decide +kernel
theorem dX12_bale_134 : decode cX12_bale 134 = .ok (.bipush 6, 2) := by decide +kernel
theorem dX12_bale_136 : decode cX12_bale 136 = .ok (.iconst (-1), 1) := by decide +kernel
theorem dX12_bale_137 : decode cX12_bale 137 = .ok (.invokevirtual 175, 3) := by decide +kernel
theorem dX12_bale_140 : decode cX12_bale 140 = .ok (.aload_n 0, 1) := by decide +kernel
theorem dX12_bale_141 : decode cX12_bale 141 = .ok (.iload 5, 2) := by decide +kernel
theorem dX12_bale_143 : decode cX12_bale 143 = .ok (.bipush 7, 2) := by decide +kernel
theorem dX12_bale_145 : decode cX12_bale 145 = .ok (.iconst 2, 1) := by decide +kernel
theorem dX12_bale_146 : decode cX12_bale 146 = .ok (.invokevirtual 175, 3) := by decide +kernel
theorem dX12_bale_149 : decode cX12_bale 149 = .ok (.iload 5, 2) := by decide +kernel
theorem dX12_bale_151 : decode cX12_bale 151 = .ok (.ireturn, 1) := by decide +kernel
set_option maxRecDepth 20000 in
theorem ggX12_press_X12_isBale : GoodIn wsX12_press wsX12_isBale := goodIn_r _ [6, 1, 7, 8, 5, 9, 22, 23, 24, 25, 26, 27, 28, 29, 30, 31, 32, 33, 34, 35, 36, 37, 38, 39, 40, 41, 42] (by decide +kernel) (by decide +kernel)
set_option maxRecDepth 20000 in
theorem gX12_press_X12_isBale : GoodIn wsX12_press (wsV RX12 178 RX12 yX12_isBale wsX12_isBale) := goodIn_app (goodIn_of _ (by decide +kernel)) ggX12_press_X12_isBale
set_option maxRecDepth 20000 in
theorem ggX12_press_X12_lies : GoodIn wsX12_press wsX12_lies := goodIn_r _ [13, 14, 15, 16, 5, 17, 1, 22, 23, 24, 25, 26, 27, 28, 29, 30, 31, 32, 33, 34, 35, 36, 37, 38, 39, 40, 41, 42] (by decide +kernel) (by decide +kernel)
set_option maxRecDepth 20000 in
theorem gX12_press_X12_lies : GoodIn wsX12_press (wsV RX12 181 RX12 yX12_lies wsX12_lies) := goodIn_app (goodIn_of _ (by decide +kernel)) ggX12_press_X12_lies
set_option maxRecDepth 20000 in
theorem ggX12_press_X12_isIn : GoodIn wsX12_press wsX12_isIn := goodIn_r _ [9] (by decide +kernel) (by decide +kernel)
set_option maxRecDepth 20000 in
theorem gX12_press_X12_isIn : GoodIn wsX12_press (va_wsS RX12 114 yX12_isIn wsX12_isIn) := goodIn_app (goodIn_of _ (by decide +kernel)) ggX12_press_X12_isIn
set_option maxRecDepth 20000 in
theorem ggX12_press_X12_sets : GoodIn wsX12_press wsX12_sets := goodIn_r _ [21, 1, 22, 23, 24, 25, 26, 27, 28, 29, 30, 31, 32, 33, 34, 35, 36, 37, 38, 39, 40, 41, 42] (by decide +kernel) (by decide +kernel)
set_option maxRecDepth 20000 in
theorem gX12_press_X12_sets : GoodIn wsX12_press (wsV RX12 175 RX12 yX12_sets wsX12_sets) := goodIn_app (goodIn_of _ (by decide +kernel)) ggX12_press_X12_sets
theorem dX12_press_0 : decode cX12_press 0 = .ok (.aload_n 0, 1) := by decide +kernel
theorem dX12_press_1 : decode cX12_press 1 = .ok (.getfield 7, 3) := by decide +kernel
theorem dX12_press_4 : decode cX12_press 4 = .ok (.iconst 1, 1) := by decide +kernel
theorem dX12_press_5 : decode cX12_press 5 = .ok (.iaload, 1) := by decide +kernel
theorem dX12_press_6 : decode cX12_press 6 = .ok (.iconst 1, 1) := by decide +kernel
theorem dX12_press_7 : decode cX12_press 7 = .ok (.if_icmp .eq 28, 3) := by decide +kernel
theorem dX12_press_10 : decode cX12_press 10 = .ok (.aload_n 0, 1) := by decide +kernel
theorem dX12_press_11 : decode cX12_press 11 = .ok (.iload_n 1, 1) := by decide +kernel
theorem dX12_press_12 : decode cX12_press 12 = .ok (.invokevirtual 178, 3) := by decide +kernel
theorem dX12_press_15 : decode cX12_press 15 = .ok (.ifCond .eq 20, 3) := by decide +kernel
theorem dX12_press_18 : decode cX12_press 18 = .ok (.aload_n 0, 1) := by decide +kernel
theorem dX12_press_19 : decode cX12_press 19 = .ok (.iload_n 1, 1) := by decide +kernel
theorem dX12_press_20 : decode cX12_press 20 = .ok (.invokevirtual 181, 3) := by decide +kernel
theorem dX12_press_23 : decode cX12_press 23 = .ok (.ifCond .ne 12, 3) := by decide +kernel
theorem dX12_press_26 : decode cX12_press 26 = .ok (.iload_n 2, 1) := by decide +kernel
theorem dX12_press_27 : decode cX12_press 27 = .ok (.iconst 0, 1) := by decide +kernel
theorem dX12_press_28 : decode cX12_press 28 = .ok (.iconst 3, 1) := by decide +kernel
theorem dX12_press_29 : decode cX12_press 29 = .ok (.invokestatic 114, 3) := by decide +kernel
theorem dX12_press_32 : decode cX12_press 32 = .ok (.ifCond .ne 5, 3) := by decide +kernel
theorem dX12_press_35 : decode cX12_press 35 = .ok (.iconst 0, 1) := by decide +kernel
theorem dX12_press_36 : decode cX12_press 36 = .ok (.ireturn, 1) := by decide +kernel
theorem dX12_press_37 : decode cX12_press 37 = .ok (.aload_n 0, 1) := by decide +kernel
theorem dX12_press_38 : decode cX12_press 38 = .ok (.iload_n 1, 1) := by decide +kernel
theorem dX12_press_39 : decode cX12_press 39 = .ok (.iconst 4, 1) := by decide +kernel
theorem dX12_press_40 : decode cX12_press 40 = .ok (.iload_n 2, 1) := by decide +kernel
theorem dX12_press_41 : decode cX12_press 41 = .ok (.invokevirtual 175, 3) := by decide +kernel
theorem dX12_press_44 : decode cX12_press 44 = .ok (.iconst 1, 1) := by decide +kernel
theorem dX12_press_45 : decode cX12_press 45 = .ok (.ireturn, 1) := by decide +kernel
set_option maxRecDepth 20000 in
theorem ggX12_lade_X12_isBale : GoodIn wsX12_lade wsX12_isBale := goodIn_r _ [6, 1, 7, 8, 5, 9, 38, 39, 40, 41, 42, 43, 44, 45, 46, 47, 48, 49, 50, 51, 52, 53, 54, 55, 56, 57, 58] (by decide +kernel) (by decide +kernel)
set_option maxRecDepth 20000 in
theorem gX12_lade_X12_isBale : GoodIn wsX12_lade (wsV RX12 178 RX12 yX12_isBale wsX12_isBale) := goodIn_app (goodIn_of _ (by decide +kernel)) ggX12_lade_X12_isBale
set_option maxRecDepth 20000 in
theorem ggX12_lade_X12_lies : GoodIn wsX12_lade wsX12_lies := goodIn_r _ [13, 14, 15, 16, 5, 17, 1, 38, 39, 40, 41, 42, 43, 44, 45, 46, 47, 48, 49, 50, 51, 52, 53, 54, 55, 56, 57, 58] (by decide +kernel) (by decide +kernel)
set_option maxRecDepth 20000 in
theorem gX12_lade_X12_lies : GoodIn wsX12_lade (wsV RX12 181 RX12 yX12_lies wsX12_lies) := goodIn_app (goodIn_of _ (by decide +kernel)) ggX12_lade_X12_lies
set_option maxRecDepth 20000 in
theorem ggX12_lade_X12_isCitizen : GoodIn wsX12_lade wsX12_isCitizen := goodIn_r _ [21, 1, 7, 8, 5, 9, 38, 39, 40, 41, 42, 43, 44, 45, 46, 47, 48, 49, 50, 51, 52, 53, 54, 55, 56, 57, 58] (by decide +kernel) (by decide +kernel)
set_option maxRecDepth 20000 in
theorem gX12_lade_X12_isCitizen : GoodIn wsX12_lade (wsV RX12 165 RX12 yX12_isCitizen wsX12_isCitizen) := goodIn_app (goodIn_of _ (by decide +kernel)) ggX12_lade_X12_isCitizen
set_option maxRecDepth 20000 in
theorem ggX12_lade_X12_isIn : GoodIn wsX12_lade wsX12_isIn := goodIn_r _ [9] (by decide +kernel) (by decide +kernel)
set_option maxRecDepth 20000 in
theorem gX12_lade_X12_isIn : GoodIn wsX12_lade (va_wsS RX12 114 yX12_isIn wsX12_isIn) := goodIn_app (goodIn_of _ (by decide +kernel)) ggX12_lade_X12_isIn
set_option maxRecDepth 20000 in
theorem ggX12_lade_X12_room : GoodIn wsX12_lade wsX12_room := goodIn_r _ [25, 14, 15, 16, 5, 17, 1, 38, 39, 40, 41, 42, 43, 44, 45, 46, 47, 48, 49, 50, 51, 52, 53, 54, 55, 56, 57, 58] (by decide +kernel) (by decide +kernel)
set_option maxRecDepth 20000 in
theorem gX12_lade_X12_room : GoodIn wsX12_lade (wsV RX12 162 RX12 yX12_room wsX12_room) := goodIn_app (goodIn_of _ (by decide +kernel)) ggX12_lade_X12_room
set_option maxRecDepth 20000 in
theorem ggX12_lade_X12_free : GoodIn wsX12_lade wsX12_free := goodIn_r _ [29, 1, 30, 31, 32, 5, 33, 14, 15, 16, 17, 22, 23, 24, 25, 38, 39, 40, 41, 42, 43, 44, 45, 46, 47, 48, 49, 50, 51, 52, 53, 54, 55, 56, 57, 58] (by decide +kernel) (by decide +kernel)
set_option maxRecDepth 20000 in
theorem gX12_lade_X12_free : GoodIn wsX12_lade (wsV RX12 168 RX12 yX12_free wsX12_free) := goodIn_app (goodIn_of _ (by decide +kernel)) ggX12_lade_X12_free
set_option maxRecDepth 20000 in
theorem ggX12_lade_X12_sets : GoodIn wsX12_lade wsX12_sets := goodIn_r _ [37, 1, 38, 39, 40, 41, 42, 43, 44, 45, 46, 47, 48, 49, 50, 51, 52, 53, 54, 55, 56, 57, 58] (by decide +kernel) (by decide +kernel)
set_option maxRecDepth 20000 in
theorem gX12_lade_X12_sets : GoodIn wsX12_lade (wsV RX12 175 RX12 yX12_sets wsX12_sets) := goodIn_app (goodIn_of _ (by decide +kernel)) ggX12_lade_X12_sets
theorem dX12_lade_0 : decode cX12_lade 0 = .ok (.aload_n 0, 1) := by decide +kernel
theorem dX12_lade_1 : decode cX12_lade 1 = .ok (.getfield 7, 3) := by decide +kernel
theorem dX12_lade_4 : decode cX12_lade 4 = .ok (.iconst 1, 1) := by decide +kernel
theorem dX12_lade_5 : decode cX12_lade 5 = .ok (.iaload, 1) := by decide +kernel
theorem dX12_lade_6 : decode cX12_lade 6 = .ok (.iconst 1, 1) := by decide +kernel
theorem dX12_lade_7 : decode cX12_lade 7 = .ok (.if_icmp .eq 49, 3) := by decide +kernel
theorem dX12_lade_10 : decode cX12_lade 10 = .ok (.aload_n 0, 1) := by decide +kernel
theorem dX12_lade_11 : decode cX12_lade 11 = .ok (.iload_n 1, 1) := by decide +kernel
theorem dX12_lade_12 : decode cX12_lade 12 = .ok (.invokevirtual 178, 3) := by decide +kernel
theorem dX12_lade_15 : decode cX12_lade 15 = .ok (.ifCond .eq 41, 3) := by decide +kernel
theorem dX12_lade_18 : decode cX12_lade 18 = .ok (.aload_n 0, 1) := by decide +kernel
theorem dX12_lade_19 : decode cX12_lade 19 = .ok (.iload_n 1, 1) := by decide +kernel
theorem dX12_lade_20 : decode cX12_lade 20 = .ok (.invokevirtual 181, 3) := by decide +kernel
theorem dX12_lade_23 : decode cX12_lade 23 = .ok (.ifCond .ne 33, 3) := by decide +kernel
theorem dX12_lade_26 : decode cX12_lade 26 = .ok (.aload_n 0, 1) := by decide +kernel
theorem dX12_lade_27 : decode cX12_lade 27 = .ok (.iload_n 2, 1) := by decide +kernel
theorem dX12_lade_28 : decode cX12_lade 28 = .ok (.invokevirtual 165, 3) := by decide +kernel
theorem dX12_lade_31 : decode cX12_lade 31 = .ok (.ifCond .eq 25, 3) := by decide +kernel
theorem dX12_lade_34 : decode cX12_lade 34 = .ok (.iload_n 3, 1) := by decide +kernel
theorem dX12_lade_35 : decode cX12_lade 35 = .ok (.iconst 0, 1) := by decide +kernel
theorem dX12_lade_36 : decode cX12_lade 36 = .ok (.iconst 1, 1) := by decide +kernel
theorem dX12_lade_37 : decode cX12_lade 37 = .ok (.invokestatic 114, 3) := by decide +kernel
theorem dX12_lade_40 : decode cX12_lade 40 = .ok (.ifCond .eq 16, 3) := by decide +kernel
theorem dX12_lade_43 : decode cX12_lade 43 = .ok (.aload_n 0, 1) := by decide +kernel
theorem dX12_lade_44 : decode cX12_lade 44 = .ok (.iload_n 1, 1) := by decide +kernel
theorem dX12_lade_45 : decode cX12_lade 45 = .ok (.invokevirtual 162, 3) := by decide +kernel
theorem dX12_lade_48 : decode cX12_lade 48 = .ok (.aload_n 0, 1) := by decide +kernel
theorem dX12_lade_49 : decode cX12_lade 49 = .ok (.iload_n 2, 1) := by decide +kernel
theorem dX12_lade_50 : decode cX12_lade 50 = .ok (.invokevirtual 168, 3) := by decide +kernel
theorem dX12_lade_53 : decode cX12_lade 53 = .ok (.if_icmp .le 5, 3) := by decide +kernel
theorem dX12_lade_56 : decode cX12_lade 56 = .ok (.iconst 0, 1) := by decide +kernel
theorem dX12_lade_57 : decode cX12_lade 57 = .ok (.ireturn, 1) := by decide +kernel
theorem dX12_lade_58 : decode cX12_lade 58 = .ok (.aload_n 0, 1) := by decide +kernel
theorem dX12_lade_59 : decode cX12_lade 59 = .ok (.iload_n 1, 1) := by decide +kernel
theorem dX12_lade_60 : decode cX12_lade 60 = .ok (.iconst 5, 1) := by decide +kernel
theorem dX12_lade_61 : decode cX12_lade 61 = .ok (.iload_n 2, 1) := by decide +kernel
theorem dX12_lade_62 : decode cX12_lade 62 = .ok (.invokevirtual 175, 3) := by decide +kernel
theorem dX12_lade_65 : decode cX12_lade 65 = .ok (.aload_n 0, 1) := by decide +kernel
theorem dX12_lade_66 : decode cX12_lade 66 = .ok (.iload_n 1, 1) := by decide +kernel
theorem dX12_lade_67 : decode cX12_lade 67 = .ok (.bipush 6, 2) := by decide +kernel
theorem dX12_lade_69 : decode cX12_lade 69 = .ok (.iload_n 3, 1) := by decide +kernel
theorem dX12_lade_70 : decode cX12_lade 70 = .ok (.invokevirtual 175, 3) := by decide +kernel
theorem dX12_lade_73 : decode cX12_lade 73 = .ok (.iconst 1, 1) := by decide +kernel
theorem dX12_lade_74 : decode cX12_lade 74 = .ok (.ireturn, 1) := by decide +kernel
set_option maxRecDepth 20000 in
theorem ggX12_unlade_X12_isBale : GoodIn wsX12_unlade wsX12_isBale := goodIn_r _ [6, 1, 7, 8, 5, 9, 22, 23, 24, 25, 26, 27, 28, 29, 30, 31, 32, 33, 34, 35, 36, 37, 38, 39, 40, 41, 42] (by decide +kernel) (by decide +kernel)
set_option maxRecDepth 20000 in
theorem gX12_unlade_X12_isBale : GoodIn wsX12_unlade (wsV RX12 178 RX12 yX12_isBale wsX12_isBale) := goodIn_app (goodIn_of _ (by decide +kernel)) ggX12_unlade_X12_isBale
set_option maxRecDepth 20000 in
theorem ggX12_unlade_X12_lies : GoodIn wsX12_unlade wsX12_lies := goodIn_r _ [13, 14, 15, 16, 5, 17, 1, 22, 23, 24, 25, 26, 27, 28, 29, 30, 31, 32, 33, 34, 35, 36, 37, 38, 39, 40, 41, 42] (by decide +kernel) (by decide +kernel)
set_option maxRecDepth 20000 in
theorem gX12_unlade_X12_lies : GoodIn wsX12_unlade (wsV RX12 181 RX12 yX12_lies wsX12_lies) := goodIn_app (goodIn_of _ (by decide +kernel)) ggX12_unlade_X12_lies
set_option maxRecDepth 20000 in
theorem ggX12_unlade_X12_sets : GoodIn wsX12_unlade wsX12_sets := goodIn_r _ [21, 1, 22, 23, 24, 25, 26, 27, 28, 29, 30, 31, 32, 33, 34, 35, 36, 37, 38, 39, 40, 41, 42] (by decide +kernel) (by decide +kernel)
set_option maxRecDepth 20000 in
theorem gX12_unlade_X12_sets : GoodIn wsX12_unlade (wsV RX12 175 RX12 yX12_sets wsX12_sets) := goodIn_app (goodIn_of _ (by decide +kernel)) ggX12_unlade_X12_sets
theorem dX12_unlade_0 : decode cX12_unlade 0 = .ok (.aload_n 0, 1) := by decide +kernel
theorem dX12_unlade_1 : decode cX12_unlade 1 = .ok (.getfield 7, 3) := by decide +kernel
theorem dX12_unlade_4 : decode cX12_unlade 4 = .ok (.iconst 1, 1) := by decide +kernel
theorem dX12_unlade_5 : decode cX12_unlade 5 = .ok (.iaload, 1) := by decide +kernel
theorem dX12_unlade_6 : decode cX12_unlade 6 = .ok (.iconst 1, 1) := by decide +kernel
theorem dX12_unlade_7 : decode cX12_unlade 7 = .ok (.if_icmp .eq 19, 3) := by decide +kernel
theorem dX12_unlade_10 : decode cX12_unlade 10 = .ok (.aload_n 0, 1) := by decide +kernel
theorem dX12_unlade_11 : decode cX12_unlade 11 = .ok (.iload_n 1, 1) := by decide +kernel
theorem dX12_unlade_12 : decode cX12_unlade 12 = .ok (.invokevirtual 178, 3) := by decide +kernel
theorem dX12_unlade_15 : decode cX12_unlade 15 = .ok (.ifCond .eq 11, 3) := by decide +kernel
theorem dX12_unlade_18 : decode cX12_unlade 18 = .ok (.aload_n 0, 1) := by decide +kernel
theorem dX12_unlade_19 : decode cX12_unlade 19 = .ok (.iload_n 1, 1) := by decide +kernel
theorem dX12_unlade_20 : decode cX12_unlade 20 = .ok (.invokevirtual 181, 3) := by decide +kernel
theorem dX12_unlade_23 : decode cX12_unlade 23 = .ok (.ifCond .ne 5, 3) := by decide +kernel
theorem dX12_unlade_26 : decode cX12_unlade 26 = .ok (.iconst 0, 1) := by decide +kernel
theorem dX12_unlade_27 : decode cX12_unlade 27 = .ok (.ireturn, 1) := by decide +kernel
theorem dX12_unlade_28 : decode cX12_unlade 28 = .ok (.aload_n 0, 1) := by decide +kernel
theorem dX12_unlade_29 : decode cX12_unlade 29 = .ok (.iload_n 1, 1) := by decide +kernel
theorem dX12_unlade_30 : decode cX12_unlade 30 = .ok (.iconst 5, 1) := by decide +kernel
theorem dX12_unlade_31 : decode cX12_unlade 31 = .ok (.iconst (-1), 1) := by decide +kernel
theorem dX12_unlade_32 : decode cX12_unlade 32 = .ok (.invokevirtual 175, 3) := by decide +kernel
theorem dX12_unlade_35 : decode cX12_unlade 35 = .ok (.aload_n 0, 1) := by decide +kernel
theorem dX12_unlade_36 : decode cX12_unlade 36 = .ok (.iload_n 1, 1) := by decide +kernel
theorem dX12_unlade_37 : decode cX12_unlade 37 = .ok (.bipush 6, 2) := by decide +kernel
theorem dX12_unlade_39 : decode cX12_unlade 39 = .ok (.iconst (-1), 1) := by decide +kernel
theorem dX12_unlade_40 : decode cX12_unlade 40 = .ok (.invokevirtual 175, 3) := by decide +kernel
theorem dX12_unlade_43 : decode cX12_unlade 43 = .ok (.iconst 1, 1) := by decide +kernel
theorem dX12_unlade_44 : decode cX12_unlade 44 = .ok (.ireturn, 1) := by decide +kernel
set_option maxRecDepth 20000 in
theorem ggX12_tilt_X12_lies : GoodIn wsX12_tilt wsX12_lies := goodIn_r _ [6, 7, 8, 9, 5, 10, 1, 11, 12, 13, 14, 15, 16, 17, 18, 19, 20, 21, 22, 23, 24, 25, 26, 27, 28, 29, 30, 31] (by decide +kernel) (by decide +kernel)
set_option maxRecDepth 20000 in
theorem gX12_tilt_X12_lies : GoodIn wsX12_tilt (wsV RX12 181 RX12 yX12_lies wsX12_lies) := goodIn_app (goodIn_of _ (by decide +kernel)) ggX12_tilt_X12_lies
set_option maxRecDepth 20000 in
theorem ggX12_tilt_X12_its : GoodIn wsX12_tilt wsX12_its := goodIn_r _ [10, 1, 11, 12, 13, 14, 15, 16, 17, 18, 19, 20, 21, 22, 23, 24, 25, 26, 27, 28, 29, 30, 31] (by decide +kernel) (by decide +kernel)
set_option maxRecDepth 20000 in
theorem gX12_tilt_X12_its : GoodIn wsX12_tilt (wsV RX12 159 RX12 yX12_its wsX12_its) := goodIn_app (goodIn_of _ (by decide +kernel)) ggX12_tilt_X12_its
theorem dX12_tilt_0 : decode cX12_tilt 0 = .ok (.iconst 0, 1) := by decide +kernel
theorem dX12_tilt_1 : decode cX12_tilt 1 = .ok (.istore_n 1, 1) := by decide +kernel
theorem dX12_tilt_2 : decode cX12_tilt 2 = .ok (.iconst 0, 1) := by decide +kernel
theorem dX12_tilt_3 : decode cX12_tilt 3 = .ok (.istore_n 2, 1) := by decide +kernel
theorem dX12_tilt_4 : decode cX12_tilt 4 = .ok (.iload_n 2, 1) := by decide +kernel
theorem dX12_tilt_5 : decode cX12_tilt 5 = .ok (.aload_n 0, 1) := by decide +kernel
theorem dX12_tilt_6 : decode cX12_tilt 6 = .ok (.getfield 7, 3) := by decide +kernel
theorem dX12_tilt_9 : decode cX12_tilt 9 = .ok (.iconst 4, 1) := by decide +kernel
theorem dX12_tilt_10 : decode cX12_tilt 10 = .ok (.iaload, 1) := by decide +kernel
theorem dX12_tilt_11 : decode cX12_tilt 11 = .ok (.if_icmp .ge 46, 3) := by decide +kernel
theorem dX12_tilt_14 : decode cX12_tilt 14 = .ok (.aload_n 0, 1) := by decide +kernel
theorem dX12_tilt_15 : decode cX12_tilt 15 = .ok (.iload_n 2, 1) := by decide +kernel
theorem dX12_tilt_16 : decode cX12_tilt 16 = .ok (.invokevirtual 181, 3) := by decide +kernel
theorem dX12_tilt_19 : decode cX12_tilt 19 = .ok (.ifCond .eq 32, 3) := by decide +kernel
theorem dX12_tilt_22 : decode cX12_tilt 22 = .ok (.iload_n 1, 1) := by decide +kernel
theorem dX12_tilt_23 : decode cX12_tilt 23 = .ok (.aload_n 0, 1) := by decide +kernel
theorem dX12_tilt_24 : decode cX12_tilt 24 = .ok (.iload_n 2, 1) := by decide +kernel
theorem dX12_tilt_25 : decode cX12_tilt 25 = .ok (.bipush 6, 2) := by decide +kernel
theorem dX12_tilt_27 : decode cX12_tilt 27 = .ok (.invokevirtual 159, 3) := by decide +kernel
theorem dX12_tilt_30 : decode cX12_tilt 30 = .ok (.ifCond .ne 12, 3) := by decide +kernel
theorem dX12_tilt_33 : decode cX12_tilt 33 = .ok (.aload_n 0, 1) := by decide +kernel
theorem dX12_tilt_34 : decode cX12_tilt 34 = .ok (.iload_n 2, 1) := by decide +kernel
theorem dX12_tilt_35 : decode cX12_tilt 35 = .ok (.iconst 2, 1) := by decide +kernel
theorem dX12_tilt_36 : decode cX12_tilt 36 = .ok (.invokevirtual 159, 3) := by decide +kernel
theorem dX12_tilt_39 : decode cX12_tilt 39 = .ok (.goto 10, 3) := by decide +kernel
theorem dX12_tilt_42 : decode cX12_tilt 42 = .ok (.aload_n 0, 1) := by decide +kernel
theorem dX12_tilt_43 : decode cX12_tilt 43 = .ok (.iload_n 2, 1) := by decide +kernel
theorem dX12_tilt_44 : decode cX12_tilt 44 = .ok (.iconst 2, 1) := by decide +kernel
theorem dX12_tilt_45 : decode cX12_tilt 45 = .ok (.invokevirtual 159, 3) := by decide +kernel
theorem dX12_tilt_48 : decode cX12_tilt 48 = .ok (.ineg, 1) := by decide +kernel
