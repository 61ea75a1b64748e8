theorem dX9_stepWord_47 : decode cX9_stepWord 47 = .ok (.invokevirtual 62, 3) := by decide +kernel
theorem dX9_stepWord_50 : decode cX9_stepWord 50 = .ok (.putfield 16, 3) := by decide +kernel
theorem dX9_stepWord_53 : decode cX9_stepWord 53 = .ok (.return_, 1) := by decide +kernel
set_option maxRecDepth 20000 in
theorem ggX9_stepNumber_X9_isDigit : GoodIn wsX9_stepNumber wsX9_isDigit := goodIn_r _ [11, 12, 13, 14] (by decide +kernel) (by decide +kernel)
set_option maxRecDepth 20000 in
theorem gX9_stepNumber_X9_isDigit : GoodIn wsX9_stepNumber (va_wsS RX9 50 yX9_isDigit wsX9_isDigit) := goodIn_app (goodIn_of _ (by decide +kernel)) ggX9_stepNumber_X9_isDigit
theorem dX9_stepNumber_0 : decode cX9_stepNumber 0 = .ok (.aload_n 0, 1) := by decide +kernel
theorem dX9_stepNumber_1 : decode cX9_stepNumber 1 = .ok (.iconst 0, 1) := by decide +kernel
theorem dX9_stepNumber_2 : decode cX9_stepNumber 2 = .ok (.putfield 26, 3) := by decide +kernel
theorem dX9_stepNumber_5 : decode cX9_stepNumber 5 = .ok (.aload_n 0, 1) := by decide +kernel
theorem dX9_stepNumber_6 : decode cX9_stepNumber 6 = .ok (.getfield 23, 3) := by decide +kernel
theorem dX9_stepNumber_9 : decode cX9_stepNumber 9 = .ok (.aload_n 0, 1) := by decide +kernel
theorem dX9_stepNumber_10 : decode cX9_stepNumber 10 = .ok (.getfield 10, 3) := by decide +kernel
theorem dX9_stepNumber_13 : decode cX9_stepNumber 13 = .ok (.getfield 33, 3) := by decide +kernel
theorem dX9_stepNumber_16 : decode cX9_stepNumber 16 = .ok (.if_icmp .ge 61, 3) := by decide +kernel
theorem dX9_stepNumber_19 : decode cX9_stepNumber 19 = .ok (.aload_n 0, 1) := by decide +kernel
theorem dX9_stepNumber_20 : decode cX9_stepNumber 20 = .ok (.getfield 10, 3) := by decide +kernel
theorem dX9_stepNumber_23 : decode cX9_stepNumber 23 = .ok (.getfield 36, 3) := by decide +kernel
theorem dX9_stepNumber_26 : decode cX9_stepNumber 26 = .ok (.aload_n 0, 1) := by decide +kernel
theorem dX9_stepNumber_27 : decode cX9_stepNumber 27 = .ok (.getfield 23, 3) := by decide +kernel
theorem dX9_stepNumber_30 : decode cX9_stepNumber 30 = .ok (.baload, 1) := by decide +kernel
theorem dX9_stepNumber_31 : decode cX9_stepNumber 31 = .ok (.invokestatic 50, 3) := by decide +kernel
theorem dX9_stepNumber_34 : decode cX9_stepNumber 34 = .ok (.ifCond .eq 43, 3) := by decide +kernel
theorem dX9_stepNumber_37 : decode cX9_stepNumber 37 = .ok (.aload_n 0, 1) := by decide +kernel
theorem dX9_stepNumber_38 : decode cX9_stepNumber 38 = .ok (.aload_n 0, 1) := by decide +kernel
theorem dX9_stepNumber_39 : decode cX9_stepNumber 39 = .ok (.getfield 26, 3) := by decide +kernel
theorem dX9_stepNumber_42 : decode cX9_stepNumber 42 = .ok (.bipush 10, 2) := by decide +kernel
theorem dX9_stepNumber_44 : decode cX9_stepNumber 44 = .ok (.imul, 1) := by decide +kernel
theorem dX9_stepNumber_45 : decode cX9_stepNumber 45 = .ok (.aload_n 0, 1) := by decide +kernel
theorem dX9_stepNumber_46 : decode cX9_stepNumber 46 = .ok (.getfield 10, 3) := by decide +kernel
theorem dX9_stepNumber_49 : decode cX9_stepNumber 49 = .ok (.getfield 36, 3) := by decide +kernel
theorem dX9_stepNumber_52 : decode cX9_stepNumber 52 = .ok (.aload_n 0, 1) := by decide +kernel
theorem dX9_stepNumber_53 : decode cX9_stepNumber 53 = .ok (.getfield 23, 3) := by decide +kernel
theorem dX9_stepNumber_56 : decode cX9_stepNumber 56 = .ok (.baload, 1) := by decide +kernel
theorem dX9_stepNumber_57 : decode cX9_stepNumber 57 = .ok (.bipush 48, 2) := by decide +kernel
theorem dX9_stepNumber_59 : decode cX9_stepNumber 59 = .ok (.isub, 1) := by decide +kernel
theorem dX9_stepNumber_60 : decode cX9_stepNumber 60 = .ok (.iadd, 1) := by decide +kernel
theorem dX9_stepNumber_61 : decode cX9_stepNumber 61 = .ok (.putfield 26, 3) := by decide +kernel
theorem dX9_stepNumber_64 : decode cX9_stepNumber 64 = .ok (.aload_n 0, 1) := by decide +kernel
theorem dX9_stepNumber_65 : decode cX9_stepNumber 65 = .ok (.dup, 1) := by decide +kernel
theorem dX9_stepNumber_66 : decode cX9_stepNumber 66 = .ok (.getfield 23, 3) := by decide +kernel
theorem dX9_stepNumber_69 : decode cX9_stepNumber 69 = .ok (.iconst 1, 1) := by decide +kernel
theorem dX9_stepNumber_70 : decode cX9_stepNumber 70 = .ok (.iadd, 1) := by decide +kernel
theorem dX9_stepNumber_71 : decode cX9_stepNumber 71 = .ok (.putfield 23, 3) := by decide +kernel
theorem dX9_stepNumber_74 : decode cX9_stepNumber 74 = .ok (.goto (-69), 3) := by decide +kernel
theorem dX9_stepNumber_77 : decode cX9_stepNumber 77 = .ok (.aload_n 0, 1) := by decide +kernel
theorem dX9_stepNumber_78 : decode cX9_stepNumber 78 = .ok (.aload_n 0, 1) := by decide +kernel
theorem dX9_stepNumber_79 : decode cX9_stepNumber 79 = .ok (.getfield 23, 3) := by decide +kernel
theorem dX9_stepNumber_82 : decode cX9_stepNumber 82 = .ok (.aload_n 0, 1) := by decide +kernel
theorem dX9_stepNumber_83 : decode cX9_stepNumber 83 = .ok (.getfield 20, 3) := by decide +kernel
theorem dX9_stepNumber_86 : decode cX9_stepNumber 86 = .ok (.isub, 1) := by decide +kernel
theorem dX9_stepNumber_87 : decode cX9_stepNumber 87 = .ok (.iconst 3, 1) := by decide +kernel
theorem dX9_stepNumber_88 : decode cX9_stepNumber 88 = .ok (.if_icmp .gt 8, 3) := by decide +kernel
theorem dX9_stepNumber_91 : decode cX9_stepNumber 91 = .ok (.bipush 12, 2) := by decide +kernel
theorem dX9_stepNumber_93 : decode cX9_stepNumber 93 = .ok (.goto 5, 3) := by decide +kernel
theorem dX9_stepNumber_96 : decode cX9_stepNumber 96 = .ok (.bipush 13, 2) := by decide +kernel
theorem dX9_stepNumber_98 : decode cX9_stepNumber 98 = .ok (.putfield 16, 3) := by decide +kernel
theorem dX9_stepNumber_101 : decode cX9_stepNumber 101 = .ok (.return_, 1) := by decide +kernel
set_option maxRecDepth 20000 in
theorem ggX9_wordToken_X9_isWord : GoodIn wsX9_wordToken wsX9_isWord := goodIn_r _ [8, 9, 3, 1, 2, 10, 11, 12, 13, 14, 15, 16, 17, 18, 19, 20, 21, 22, 23, 24, 25, 26, 27, 28, 29, 30, 31, 32, 33, 34, 35, 36, 37, 38, 39, 40, 41, 42, 43, 44, 45, 46, 47, 48, 49, 50, 51, 52, 53, 54, 55, 56, 57, 58, 59, 60, 61, 62, 63, 64, 65] (by decide +kernel) (by decide +kernel)
set_option maxRecDepth 20000 in
theorem gX9_wordToken_X9_isWord : GoodIn wsX9_wordToken (wsV RX9 68 RX9 yX9_isWord wsX9_isWord) := goodIn_app (goodIn_of _ (by decide +kernel)) ggX9_wordToken_X9_isWord
theorem dX9_wordToken_0 : decode cX9_wordToken 0 = .ok (.aload_n 0, 1) := by decide +kernel
theorem dX9_wordToken_1 : decode cX9_wordToken 1 = .ok (.getfield 10, 3) := by decide +kernel
theorem dX9_wordToken_4 : decode cX9_wordToken 4 = .ok (.getfield 36, 3) := by decide +kernel
theorem dX9_wordToken_7 : decode cX9_wordToken 7 = .ok (.aload_n 0, 1) := by decide +kernel
theorem dX9_wordToken_8 : decode cX9_wordToken 8 = .ok (.getfield 20, 3) := by decide +kernel
theorem dX9_wordToken_11 : decode cX9_wordToken 11 = .ok (.baload, 1) := by decide +kernel
theorem dX9_wordToken_12 : decode cX9_wordToken 12 = .ok (.tableswitch 288 97 121 #[133, 288, 288, 288, 288, 288, 288, 288, 116, 288, 288, 198, 288, 231, 288, 214, 288, 166, 260, 288, 288, 288, 150, 288, 182], 116) := by decide +kernel
theorem dX9_wordToken_128 : decode cX9_wordToken 128 = .ok (.aload_n 0, 1) := by decide +kernel
theorem dX9_wordToken_129 : decode cX9_wordToken 129 = .ok (.ldc 66, 2) := by decide +kernel
theorem dX9_wordToken_131 : decode cX9_wordToken 131 = .ok (.invokevirtual 68, 3) := by decide +kernel
theorem dX9_wordToken_134 : decode cX9_wordToken 134 = .ok (.ifCond .eq 8, 3) := by decide +kernel
theorem dX9_wordToken_137 : decode cX9_wordToken 137 = .ok (.bipush 9, 2) := by decide +kernel
theorem dX9_wordToken_139 : decode cX9_wordToken 139 = .ok (.goto 5, 3) := by decide +kernel
theorem dX9_wordToken_142 : decode cX9_wordToken 142 = .ok (.bipush 13, 2) := by decide +kernel
theorem dX9_wordToken_144 : decode cX9_wordToken 144 = .ok (.ireturn, 1) := by decide +kernel
theorem dX9_wordToken_145 : decode cX9_wordToken 145 = .ok (.aload_n 0, 1) := by decide +kernel
theorem dX9_wordToken_146 : decode cX9_wordToken 146 = .ok (.ldc 72, 2) := by decide +kernel
theorem dX9_wordToken_148 : decode cX9_wordToken 148 = .ok (.invokevirtual 68, 3) := by decide +kernel
theorem dX9_wordToken_151 : decode cX9_wordToken 151 = .ok (.ifCond .eq 8, 3) := by decide +kernel
theorem dX9_wordToken_154 : decode cX9_wordToken 154 = .ok (.bipush 10, 2) := by decide +kernel
theorem dX9_wordToken_156 : decode cX9_wordToken 156 = .ok (.goto 5, 3) := by decide +kernel
theorem dX9_wordToken_159 : decode cX9_wordToken 159 = .ok (.bipush 13, 2) := by decide +kernel
theorem dX9_wordToken_161 : decode cX9_wordToken 161 = .ok (.ireturn, 1) := by decide +kernel
theorem dX9_wordToken_162 : decode cX9_wordToken 162 = .ok (.aload_n 0, 1) := by decide +kernel
theorem dX9_wordToken_163 : decode cX9_wordToken 163 = .ok (.ldc 74, 2) := by decide +kernel
theorem dX9_wordToken_165 : decode cX9_wordToken 165 = .ok (.invokevirtual 68, 3) := by decide +kernel
theorem dX9_wordToken_168 : decode cX9_wordToken 168 = .ok (.ifCond .eq 7, 3) := by decide +kernel
theorem dX9_wordToken_171 : decode cX9_wordToken 171 = .ok (.iconst 1, 1) := by decide +kernel
theorem dX9_wordToken_172 : decode cX9_wordToken 172 = .ok (.goto 5, 3) := by decide +kernel
theorem dX9_wordToken_175 : decode cX9_wordToken 175 = .ok (.bipush 13, 2) := by decide +kernel
theorem dX9_wordToken_177 : decode cX9_wordToken 177 = .ok (.ireturn, 1) := by decide +kernel
theorem dX9_wordToken_178 : decode cX9_wordToken 178 = .ok (.aload_n 0, 1) := by decide +kernel
theorem dX9_wordToken_179 : decode cX9_wordToken 179 = .ok (.ldc 78, 2) := by decide +kernel
theorem dX9_wordToken_181 : decode cX9_wordToken 181 = .ok (.invokevirtual 68, 3) := by decide +kernel
theorem dX9_wordToken_184 : decode cX9_wordToken 184 = .ok (.ifCond .eq 7, 3) := by decide +kernel
theorem dX9_wordToken_187 : decode cX9_wordToken 187 = .ok (.iconst 2, 1) := by decide +kernel
theorem dX9_wordToken_188 : decode cX9_wordToken 188 = .ok (.goto 5, 3) := by decide +kernel
theorem dX9_wordToken_191 : decode cX9_wordToken 191 = .ok (.bipush 13, 2) := by decide +kernel
theorem dX9_wordToken_193 : decode cX9_wordToken 193 = .ok (.ireturn, 1) := by decide +kernel
theorem dX9_wordToken_194 : decode cX9_wordToken 194 = .ok (.aload_n 0, 1) := by decide +kernel
theorem dX9_wordToken_195 : decode cX9_wordToken 195 = .ok (.ldc 80, 2) := by decide +kernel
theorem dX9_wordToken_197 : decode cX9_wordToken 197 = .ok (.invokevirtual 68, 3) := by decide +kernel
theorem dX9_wordToken_200 : decode cX9_wordToken 200 = .ok (.ifCond .eq 7, 3) := by decide +kernel
theorem dX9_wordToken_203 : decode cX9_wordToken 203 = .ok (.iconst 3, 1) := by decide +kernel
theorem dX9_wordToken_204 : decode cX9_wordToken 204 = .ok (.goto 5, 3) := by decide +kernel
theorem dX9_wordToken_207 : decode cX9_wordToken 207 = .ok (.bipush 13, 2) := by decide +kernel
theorem dX9_wordToken_209 : decode cX9_wordToken 209 = .ok (.ireturn, 1) := by decide +kernel
theorem dX9_wordToken_210 : decode cX9_wordToken 210 = .ok (.aload_n 0, 1) := by decide +kernel
theorem dX9_wordToken_211 : decode cX9_wordToken 211 = .ok (.ldc 82, 2) := by decide +kernel
theorem dX9_wordToken_213 : decode cX9_wordToken 213 = .ok (.invokevirtual 68, 3) := by decide +kernel
theorem dX9_wordToken_216 : decode cX9_wordToken 216 = .ok (.ifCond .eq 7, 3) := by decide +kernel
theorem dX9_wordToken_219 : decode cX9_wordToken 219 = .ok (.iconst 5, 1) := by decide +kernel
theorem dX9_wordToken_220 : decode cX9_wordToken 220 = .ok (.goto 5, 3) := by decide +kernel
theorem dX9_wordToken_223 : decode cX9_wordToken 223 = .ok (.bipush 13, 2) := by decide +kernel
theorem dX9_wordToken_225 : decode cX9_wordToken 225 = .ok (.ireturn, 1) := by decide +kernel
theorem dX9_wordToken_226 : decode cX9_wordToken 226 = .ok (.aload_n 0, 1) := by decide +kernel
theorem dX9_wordToken_227 : decode cX9_wordToken 227 = .ok (.ldc 84, 2) := by decide +kernel
theorem dX9_wordToken_229 : decode cX9_wordToken 229 = .ok (.invokevirtual 68, 3) := by decide +kernel
theorem dX9_wordToken_232 : decode cX9_wordToken 232 = .ok (.ifCond .eq 8, 3) := by decide +kernel
theorem dX9_wordToken_235 : decode cX9_wordToken 235 = .ok (.bipush 7, 2) := by decide +kernel
theorem dX9_wordToken_237 : decode cX9_wordToken 237 = .ok (.goto 5, 3) := by decide +kernel
theorem dX9_wordToken_240 : decode cX9_wordToken 240 = .ok (.bipush 13, 2) := by decide +kernel
theorem dX9_wordToken_242 : decode cX9_wordToken 242 = .ok (.ireturn, 1) := by decide +kernel
theorem dX9_wordToken_243 : decode cX9_wordToken 243 = .ok (.aload_n 0, 1) := by decide +kernel
theorem dX9_wordToken_244 : decode cX9_wordToken 244 = .ok (.ldc 86, 2) := by decide +kernel
theorem dX9_wordToken_246 : decode cX9_wordToken 246 = .ok (.invokevirtual 68, 3) := by decide +kernel
theorem dX9_wordToken_249 : decode cX9_wordToken 249 = .ok (.ifCond .eq 6, 3) := by decide +kernel
theorem dX9_wordToken_252 : decode cX9_wordToken 252 = .ok (.bipush 11, 2) := by decide +kernel
theorem dX9_wordToken_254 : decode cX9_wordToken 254 = .ok (.ireturn, 1) := by decide +kernel
theorem dX9_wordToken_255 : decode cX9_wordToken 255 = .ok (.aload_n 0, 1) := by decide +kernel
theorem dX9_wordToken_256 : decode cX9_wordToken 256 = .ok (.ldc 88, 2) := by decide +kernel
theorem dX9_wordToken_258 : decode cX9_wordToken 258 = .ok (.invokevirtual 68, 3) := by decide +kernel
theorem dX9_wordToken_261 : decode cX9_wordToken 261 = .ok (.ifCond .eq 8, 3) := by decide +kernel
theorem dX9_wordToken_264 : decode cX9_wordToken 264 = .ok (.bipush 8, 2) := by decide +kernel
theorem dX9_wordToken_266 : decode cX9_wordToken 266 = .ok (.goto 5, 3) := by decide +kernel
theorem dX9_wordToken_269 : decode cX9_wordToken 269 = .ok (.bipush 13, 2) := by decide +kernel
theorem dX9_wordToken_271 : decode cX9_wordToken 271 = .ok (.ireturn, 1) := by decide +kernel
theorem dX9_wordToken_272 : decode cX9_wordToken 272 = .ok (.aload_n 0, 1) := by decide +kernel
theorem dX9_wordToken_273 : decode cX9_wordToken 273 = .ok (.ldc 90, 2) := by decide +kernel
theorem dX9_wordToken_275 : decode cX9_wordToken 275 = .ok (.invokevirtual 68, 3) := by decide +kernel
theorem dX9_wordToken_278 : decode cX9_wordToken 278 = .ok (.ifCond .eq 5, 3) := by decide +kernel
theorem dX9_wordToken_281 : decode cX9_wordToken 281 = .ok (.iconst 4, 1) := by decide +kernel
theorem dX9_wordToken_282 : decode cX9_wordToken 282 = .ok (.ireturn, 1) := by decide +kernel
theorem dX9_wordToken_283 : decode cX9_wordToken 283 = .ok (.aload_n 0, 1) := by decide +kernel
theorem dX9_wordToken_284 : decode cX9_wordToken 284 = .ok (.ldc 92, 2) := by decide +kernel
theorem dX9_wordToken_286 : decode cX9_wordToken 286 = .ok (.invokevirtual 68, 3) := by decide +kernel
theorem dX9_wordToken_289 : decode cX9_wordToken 289 = .ok (.ifCond .eq 8, 3) := by decide +kernel
theorem dX9_wordToken_292 : decode cX9_wordToken 292 = .ok (.bipush 6, 2) := by decide +kernel
theorem dX9_wordToken_294 : decode cX9_wordToken 294 = .ok (.goto 5, 3) := by decide +kernel
theorem dX9_wordToken_297 : decode cX9_wordToken 297 = .ok (.bipush 13, 2) := by decide +kernel
theorem dX9_wordToken_299 : decode cX9_wordToken 299 = .ok (.ireturn, 1) := by decide +kernel
theorem dX9_wordToken_300 : decode cX9_wordToken 300 = .ok (.bipush 13, 2) := by decide +kernel
theorem dX9_wordToken_302 : decode cX9_wordToken 302 = .ok (.ireturn, 1) := by decide +kernel
set_option maxRecDepth 20000 in
theorem ggX9_isWord_J0_length_8abf5 : GoodIn wsX9_isWord wsJ0_length_8abf5 := goodIn_r _ [9, 10, 11, 12, 13, 8, 14, 15, 16] (by decide +kernel) (by decide +kernel)
set_option maxRecDepth 20000 in
theorem gX9_isWord_J0_length_8abf5 : GoodIn wsX9_isWord (wsV RX9 94 RJ0 yJ0_length_8abf5 wsJ0_length_8abf5) := goodIn_app (goodIn_of _ (by decide +kernel)) ggX9_isWord_J0_length_8abf5
set_option maxRecDepth 20000 in
theorem ggX9_isWord_J0_charAt_5068e : GoodIn wsX9_isWord wsJ0_charAt_5068e := goodIn_r _ [20, 10, 21, 22, 23, 8, 24, 15, 16, 25, 26, 27, 28, 29, 30, 31, 32, 33, 34, 35, 36, 37, 38, 39, 40, 41, 42, 43, 44, 45, 46, 47, 48, 49, 50, 51, 52, 53] (by decide +kernel) (by decide +kernel)
set_option maxRecDepth 20000 in
theorem gX9_isWord_J0_charAt_5068e : GoodIn wsX9_isWord (wsV RX9 98 RJ0 yJ0_charAt_5068e wsJ0_charAt_5068e) := goodIn_app (goodIn_of _ (by decide +kernel)) ggX9_isWord_J0_charAt_5068e
theorem dX9_isWord_0 : decode cX9_isWord 0 = .ok (.aload_n 0, 1) := by decide +kernel
theorem dX9_isWord_1 : decode cX9_isWord 1 = .ok (.getfield 23, 3) := by decide +kernel
theorem dX9_isWord_4 : decode cX9_isWord 4 = .ok (.aload_n 0, 1) := by decide +kernel
theorem dX9_isWord_5 : decode cX9_isWord 5 = .ok (.getfield 20, 3) := by decide +kernel
theorem dX9_isWord_8 : decode cX9_isWord 8 = .ok (.isub, 1) := by decide +kernel
theorem dX9_isWord_9 : decode cX9_isWord 9 = .ok (.aload_n 1, 1) := by decide +kernel
theorem dX9_isWord_10 : decode cX9_isWord 10 = .ok (.invokevirtual 94, 3) := by decide +kernel
theorem dX9_isWord_13 : decode cX9_isWord 13 = .ok (.if_icmp .eq 5, 3) := by decide +kernel
theorem dX9_isWord_16 : decode cX9_isWord 16 = .ok (.iconst 0, 1) := by decide +kernel
theorem dX9_isWord_17 : decode cX9_isWord 17 = .ok (.ireturn, 1) := by decide +kernel
theorem dX9_isWord_18 : decode cX9_isWord 18 = .ok (.iconst 0, 1) := by decide +kernel
theorem dX9_isWord_19 : decode cX9_isWord 19 = .ok (.istore_n 2, 1) := by decide +kernel
theorem dX9_isWord_20 : decode cX9_isWord 20 = .ok (.iload_n 2, 1) := by decide +kernel
theorem dX9_isWord_21 : decode cX9_isWord 21 = .ok (.aload_n 1, 1) := by decide +kernel
theorem dX9_isWord_22 : decode cX9_isWord 22 = .ok (.invokevirtual 94, 3) := by decide +kernel
theorem dX9_isWord_25 : decode cX9_isWord 25 = .ok (.if_icmp .ge 33, 3) := by decide +kernel
theorem dX9_isWord_28 : decode cX9_isWord 28 = .ok (.aload_n 0, 1) := by decide +kernel
theorem dX9_isWord_29 : decode cX9_isWord 29 = .ok (.getfield 10, 3) := by decide +kernel
theorem dX9_isWord_32 : decode cX9_isWord 32 = .ok (.getfield 36, 3) := by decide +kernel
theorem dX9_isWord_35 : decode cX9_isWord 35 = .ok (.aload_n 0, 1) := by decide +kernel
theorem dX9_isWord_36 : decode cX9_isWord 36 = .ok (.getfield 20, 3) := by decide +kernel
theorem dX9_isWord_39 : decode cX9_isWord 39 = .ok (.iload_n 2, 1) := by decide +kernel
theorem dX9_isWord_40 : decode cX9_isWord 40 = .ok (.iadd, 1) := by decide +kernel
theorem dX9_isWord_41 : decode cX9_isWord 41 = .ok (.baload, 1) := by decide +kernel
theorem dX9_isWord_42 : decode cX9_isWord 42 = .ok (.aload_n 1, 1) := by decide +kernel
theorem dX9_isWord_43 : decode cX9_isWord 43 = .ok (.iload_n 2, 1) := by decide +kernel
theorem dX9_isWord_44 : decode cX9_isWord 44 = .ok (.invokevirtual 98, 3) := by decide +kernel
theorem dX9_isWord_47 : decode cX9_isWord 47 = .ok (.if_icmp .eq 5, 3) := by decide +kernel
theorem dX9_isWord_50 : decode cX9_isWord 50 = .ok (.iconst 0, 1) := by decide +kernel
theorem dX9_isWord_51 : decode cX9_isWord 51 = .ok (.ireturn, 1) := by decide +kernel
theorem dX9_isWord_52 : decode cX9_isWord 52 = .ok (.iinc 2 1, 3) := by decide +kernel
theorem dX9_isWord_55 : decode cX9_isWord 55 = .ok (.goto (-35), 3) := by decide +kernel
theorem dX9_isWord_58 : decode cX9_isWord 58 = .ok (.iconst 1, 1) := by decide +kernel
theorem dX9_isWord_59 : decode cX9_isWord 59 = .ok (.ireturn, 1) := by decide +kernel
theorem dX9_isBlank_0 : decode cX9_isBlank 0 = .ok (.iload_n 0, 1) := by decide +kernel
theorem dX9_isBlank_1 : decode cX9_isBlank 1 = .ok (.bipush 10, 2) := by decide +kernel
theorem dX9_isBlank_3 : decode cX9_isBlank 3 = .ok (.if_icmp .eq 9, 3) := by decide +kernel
theorem dX9_isBlank_6 : decode cX9_isBlank 6 = .ok (.iload_n 0, 1) := by decide +kernel
theorem dX9_isBlank_7 : decode cX9_isBlank 7 = .ok (.bipush 32, 2) := by decide +kernel
theorem dX9_isBlank_9 : decode cX9_isBlank 9 = .ok (.if_icmp .ne 7, 3) := by decide +kernel
theorem dX9_isBlank_12 : decode cX9_isBlank 12 = .ok (.iconst 1, 1) := by decide +kernel
theorem dX9_isBlank_13 : decode cX9_isBlank 13 = .ok (.goto 4, 3) := by decide +kernel
theorem dX9_isBlank_16 : decode cX9_isBlank 16 = .ok (.iconst 0, 1) := by decide +kernel
theorem dX9_isBlank_17 : decode cX9_isBlank 17 = .ok (.ireturn, 1) := by decide +kernel
set_option maxRecDepth 20000 in
theorem ggX9_isLetter_X11_within : GoodIn wsX9_isLetter wsX11_within := goodIn_r _ [3] (by decide +kernel) (by decide +kernel)
set_option maxRecDepth 20000 in
theorem gX9_isLetter_X11_within_n56 : GoodIn wsX9_isLetter (wsX11_within) := ggX9_isLetter_X11_within
theorem dX9_isLetter_0 : decode cX9_isLetter 0 = .ok (.iload_n 0, 1) := by decide +kernel
theorem dX9_isLetter_1 : decode cX9_isLetter 1 = .ok (.bipush 97, 2) := by decide +kernel
theorem dX9_isLetter_3 : decode cX9_isLetter 3 = .ok (.bipush 122, 2) := by decide +kernel
theorem dX9_isLetter_5 : decode cX9_isLetter 5 = .ok (.invokestatic 56, 3) := by decide +kernel
theorem dX9_isLetter_8 : decode cX9_isLetter 8 = .ok (.ireturn, 1) := by decide +kernel
set_option maxRecDepth 20000 in
theorem ggX9_isDigit_X11_within : GoodIn wsX9_isDigit wsX11_within := goodIn_r _ [3] (by decide +kernel) (by decide +kernel)
set_option maxRecDepth 20000 in
theorem gX9_isDigit_X11_within_n56 : GoodIn wsX9_isDigit (wsX11_within) := ggX9_isDigit_X11_within
theorem dX9_isDigit_0 : decode cX9_isDigit 0 = .ok (.iload_n 0, 1) := by decide +kernel
theorem dX9_isDigit_1 : decode cX9_isDigit 1 = .ok (.bipush 48, 2) := by decide +kernel
theorem dX9_isDigit_3 : decode cX9_isDigit 3 = .ok (.bipush 57, 2) := by decide +kernel
theorem dX9_isDigit_5 : decode cX9_isDigit 5 = .ok (.invokestatic 56, 3) := by decide +kernel
theorem dX9_isDigit_8 : decode cX9_isDigit 8 = .ok (.ireturn, 1) := by decide +kernel
theorem dX10_init_0 : decode cX10_init 0 = .ok (.aload_n 0, 1) := by decide +kernel
theorem dX10_init_1 : decode cX10_init 1 = .ok (.invokespecial 3, 3) := by decide +kernel
theorem dX10_init_4 : decode cX10_init 4 = .ok (.aload_n 0, 1) := by decide +kernel
theorem dX10_init_5 : decode cX10_init 5 = .ok (.sipush 1791, 3) := by decide +kernel
theorem dX10_init_8 : decode cX10_init 8 = .ok (.newarray .int, 2) := by decide +kernel
theorem dX10_init_10 : decode cX10_init 10 = .ok (.putfield 11, 3) := by decide +kernel
theorem dX10_init_13 : decode cX10_init 13 = .ok (.return_, 1) := by decide +kernel
set_option maxRecDepth 20000 in
theorem ggX10_copyFrom_X11_copyRow : GoodIn wsX10_copyFrom wsX11_copyRow := goodIn_r _ [4, 5, 6, 7, 8, 9, 10, 11, 12] (by decide +kernel) (by decide +kernel)
set_option maxRecDepth 20000 in
theorem gX10_copyFrom_X11_copyRow_n15 : GoodIn wsX10_copyFrom (wsX11_copyRow) := ggX10_copyFrom_X11_copyRow
theorem dX10_copyFrom_0 : decode cX10_copyFrom 0 = .ok (.aload_n 1, 1) := by decide +kernel
theorem dX10_copyFrom_1 : decode cX10_copyFrom 1 = .ok (.getfield 11, 3) := by decide +kernel
theorem dX10_copyFrom_4 : decode cX10_copyFrom 4 = .ok (.aload_n 0, 1) := by decide +kernel
theorem dX10_copyFrom_5 : decode cX10_copyFrom 5 = .ok (.getfield 11, 3) := by decide +kernel
theorem dX10_copyFrom_8 : decode cX10_copyFrom 8 = .ok (.invokestatic 15, 3) := by decide +kernel
theorem dX10_copyFrom_11 : decode cX10_copyFrom 11 = .ok (.return_, 1) := by decide +kernel
set_option maxRecDepth 20000 in
theorem ggX10_entry_X10_isCell : GoodIn wsX10_entry wsX10_isCell := goodIn_r _ [5, 6, 7, 8] (by decide +kernel) (by decide +kernel)
set_option maxRecDepth 20000 in
theorem gX10_entry_X10_isCell : GoodIn wsX10_entry (va_wsS RX10 19 yX10_isCell wsX10_isCell) := goodIn_app (goodIn_of _ (by decide +kernel)) ggX10_entry_X10_isCell
theorem dX10_entry_0 : decode cX10_entry 0 = .ok (.iload_n 1, 1) := by decide +kernel
theorem dX10_entry_1 : decode cX10_entry 1 = .ok (.iload_n 2, 1) := by decide +kernel
theorem dX10_entry_2 : decode cX10_entry 2 = .ok (.invokestatic 19, 3) := by decide +kernel
theorem dX10_entry_5 : decode cX10_entry 5 = .ok (.ifCond .eq 17, 3) := by decide +kernel
theorem dX10_entry_8 : decode cX10_entry 8 = .ok (.aload_n 0, 1) := by decide +kernel
theorem dX10_entry_9 : decode cX10_entry 9 = .ok (.getfield 11, 3) := by decide +kernel
theorem dX10_entry_12 : decode cX10_entry 12 = .ok (.iload_n 1, 1) := by decide +kernel
theorem dX10_entry_13 : decode cX10_entry 13 = .ok (.bipush 9, 2) := by decide +kernel
theorem dX10_entry_15 : decode cX10_entry 15 = .ok (.imul, 1) := by decide +kernel
theorem dX10_entry_16 : decode cX10_entry 16 = .ok (.iload_n 2, 1) := by decide +kernel
theorem dX10_entry_17 : decode cX10_entry 17 = .ok (.iadd, 1) := by decide +kernel
theorem dX10_entry_18 : decode cX10_entry 18 = .ok (.iaload, 1) := by decide +kernel
theorem dX10_entry_19 : decode cX10_entry 19 = .ok (.goto 4, 3) := by decide +kernel
theorem dX10_entry_22 : decode cX10_entry 22 = .ok (.iconst (-1), 1) := by decide +kernel
theorem dX10_entry_23 : decode cX10_entry 23 = .ok (.ireturn, 1) := by decide +kernel
set_option maxRecDepth 20000 in
theorem ggX10_put_X10_isCell : GoodIn wsX10_put wsX10_isCell := goodIn_r _ [5, 6, 7, 8] (by decide +kernel) (by decide +kernel)
set_option maxRecDepth 20000 in
theorem gX10_put_X10_isCell : GoodIn wsX10_put (va_wsS RX10 19 yX10_isCell wsX10_isCell) := goodIn_app (goodIn_of _ (by decide +kernel)) ggX10_put_X10_isCell
theorem dX10_put_0 : decode cX10_put 0 = .ok (.iload_n 1, 1) := by decide +kernel
theorem dX10_put_1 : decode cX10_put 1 = .ok (.iload_n 2, 1) := by decide +kernel
theorem dX10_put_2 : decode cX10_put 2 = .ok (.invokestatic 19, 3) := by decide +kernel
theorem dX10_put_5 : decode cX10_put 5 = .ok (.ifCond .eq 15, 3) := by decide +kernel
theorem dX10_put_8 : decode cX10_put 8 = .ok (.aload_n 0, 1) := by decide +kernel
theorem dX10_put_9 : decode cX10_put 9 = .ok (.getfield 11, 3) := by decide +kernel
theorem dX10_put_12 : decode cX10_put 12 = .ok (.iload_n 1, 1) := by decide +kernel
theorem dX10_put_13 : decode cX10_put 13 = .ok (.bipush 9, 2) := by decide +kernel
theorem dX10_put_15 : decode cX10_put 15 = .ok (.imul, 1) := by decide +kernel
theorem dX10_put_16 : decode cX10_put 16 = .ok (.iload_n 2, 1) := by decide +kernel
theorem dX10_put_17 : decode cX10_put 17 = .ok (.iadd, 1) := by decide +kernel
theorem dX10_put_18 : decode cX10_put 18 = .ok (.iload_n 3, 1) := by decide +kernel
theorem dX10_put_19 : decode cX10_put 19 = .ok (.iastore, 1) := by decide +kernel
theorem dX10_put_20 : decode cX10_put 20 = .ok (.return_, 1) := by decide +kernel
set_option maxRecDepth 20000 in
theorem ggX10_raise_X10_isCell : GoodIn wsX10_raise wsX10_isCell := goodIn_r _ [5, 6, 7, 8] (by decide +kernel) (by decide +kernel)
set_option maxRecDepth 20000 in
theorem gX10_raise_X10_isCell : GoodIn wsX10_raise (va_wsS RX10 19 yX10_isCell wsX10_isCell) := goodIn_app (goodIn_of _ (by decide +kernel)) ggX10_raise_X10_isCell
theorem dX10_raise_0 : decode cX10_raise 0 = .ok (.iload_n 1, 1) := by decide +kernel
theorem dX10_raise_1 : decode cX10_raise 1 = .ok (.iload_n 2, 1) := by decide +kernel
theorem dX10_raise_2 : decode cX10_raise 2 = .ok (.invokestatic 19, 3) := by decide +kernel
theorem dX10_raise_5 : decode cX10_raise 5 = .ok (.ifCond .eq 18, 3) := by decide +kernel
theorem dX10_raise_8 : decode cX10_raise 8 = .ok (.aload_n 0, 1) := by decide +kernel
theorem dX10_raise_9 : decode cX10_raise 9 = .ok (.getfield 11, 3) := by decide +kernel
theorem dX10_raise_12 : decode cX10_raise 12 = .ok (.iload_n 1, 1) := by decide +kernel
theorem dX10_raise_13 : decode cX10_raise 13 = .ok (.bipush 9, 2) := by decide +kernel
theorem dX10_raise_15 : decode cX10_raise 15 = .ok (.imul, 1) := by decide +kernel
theorem dX10_raise_16 : decode cX10_raise 16 = .ok (.iload_n 2, 1) := by decide +kernel
theorem dX10_raise_17 : decode cX10_raise 17 = .ok (.iadd, 1) := by decide +kernel
theorem dX10_raise_18 : decode cX10_raise 18 = .ok (.dup2, 1) := by decide +kernel
theorem dX10_raise_19 : decode cX10_raise 19 = .ok (.iaload, 1) := by decide +kernel
theorem dX10_raise_20 : decode cX10_raise 20 = .ok (.iload_n 3, 1) := by decide +kernel
theorem dX10_raise_21 : decode cX10_raise 21 = .ok (.iadd, 1) := by decide +kernel
theorem dX10_raise_22 : decode cX10_raise 22 = .ok (.iastore, 1) := by decide +kernel
theorem dX10_raise_23 : decode cX10_raise 23 = .ok (.return_, 1) := by decide +kernel
set_option maxRecDepth 20000 in
theorem ggX10_isCell_X11_within : GoodIn wsX10_isCell wsX11_within := goodIn_r _ [3] (by decide +kernel) (by decide +kernel)
set_option maxRecDepth 20000 in
theorem gX10_isCell_X11_within_n23 : GoodIn wsX10_isCell (wsX11_within) := ggX10_isCell_X11_within
theorem dX10_isCell_0 : decode cX10_isCell 0 = .ok (.iload_n 0, 1) := by decide +kernel
theorem dX10_isCell_1 : decode cX10_isCell 1 = .ok (.iconst 0, 1) := by decide +kernel
theorem dX10_isCell_2 : decode cX10_isCell 2 = .ok (.sipush 198, 3) := by decide +kernel
theorem dX10_isCell_5 : decode cX10_isCell 5 = .ok (.invokestatic 23, 3) := by decide +kernel
theorem dX10_isCell_8 : decode cX10_isCell 8 = .ok (.ifCond .eq 17, 3) := by decide +kernel
theorem dX10_isCell_11 : decode cX10_isCell 11 = .ok (.iload_n 1, 1) := by decide +kernel
theorem dX10_isCell_12 : decode cX10_isCell 12 = .ok (.iconst 0, 1) := by decide +kernel
theorem dX10_isCell_13 : decode cX10_isCell 13 = .ok (.bipush 8, 2) := by decide +kernel
theorem dX10_isCell_15 : decode cX10_isCell 15 = .ok (.invokestatic 23, 3) := by decide +kernel
theorem dX10_isCell_18 : decode cX10_isCell 18 = .ok (.ifCond .eq 7, 3) := by decide +kernel
theorem dX10_isCell_21 : decode cX10_isCell 21 = .ok (.iconst 1, 1) := by decide +kernel
theorem dX10_isCell_22 : decode cX10_isCell 22 = .ok (.goto 4, 3) := by decide +kernel
theorem dX10_isCell_25 : decode cX10_isCell 25 = .ok (.iconst 0, 1) := by decide +kernel
theorem dX10_isCell_26 : decode cX10_isCell 26 = .ok (.ireturn, 1) := by decide +kernel
set_option maxRecDepth 20000 in
theorem ggX10_open_X10_put : GoodIn wsX10_open wsX10_put := goodIn_r _ [6, 7, 8, 9, 5, 10, 11, 12, 13, 63] (by decide +kernel) (by decide +kernel)
set_option maxRecDepth 20000 in
theorem gX10_open_X10_put : GoodIn wsX10_open (wsV RX10 27 RX10 yX10_put wsX10_put) := goodIn_app (goodIn_of _ (by decide +kernel)) ggX10_open_X10_put
set_option maxRecDepth 20000 in
theorem ggX10_open_X0_waiting : GoodIn wsX10_open wsX0_waiting := goodIn_r _ [18, 19, 20, 21, 22, 17, 23, 24, 25, 26, 27, 28, 11, 12, 13, 53, 54, 55, 56, 57, 58, 59, 60, 61, 62] (by decide +kernel) (by decide +kernel)
set_option maxRecDepth 20000 in
theorem gX10_open_X0_waiting : GoodIn wsX10_open (wsV RX10 37 RX0 yX0_waiting wsX0_waiting) := goodIn_app (goodIn_of _ (by decide +kernel)) ggX10_open_X0_waiting
set_option maxRecDepth 20000 in
theorem ggX10_open_X0_judged : GoodIn wsX10_open wsX0_judged := goodIn_r _ [32, 19, 33, 34, 35, 17, 36, 24, 25, 26, 27, 28, 11, 12, 13, 37, 38, 39, 40, 41, 42, 53, 54, 55, 56, 57, 58, 59, 60, 61, 62] (by decide +kernel) (by decide +kernel)
set_option maxRecDepth 20000 in
theorem gX10_open_X0_judged : GoodIn wsX10_open (wsV RX10 41 RX0 yX0_judged wsX0_judged) := goodIn_app (goodIn_of _ (by decide +kernel)) ggX10_open_X0_judged
set_option maxRecDepth 20000 in
theorem ggX10_open_X0_ladenWeight : GoodIn wsX10_open wsX0_ladenWeight := goodIn_r _ [46, 47, 48, 49, 17, 50, 19, 51, 52, 53, 54, 55, 56, 57, 58, 59, 60, 61, 62] (by decide +kernel) (by decide +kernel)
set_option maxRecDepth 20000 in
theorem gX10_open_X0_ladenWeight : GoodIn wsX10_open (wsV RX10 45 RX0 yX0_ladenWeight wsX0_ladenWeight) := goodIn_app (goodIn_of _ (by decide +kernel)) ggX10_open_X0_ladenWeight
theorem dX10_open_0 : decode cX10_open 0 = .ok (.aload_n 0, 1) := by decide +kernel
theorem dX10_open_1 : decode cX10_open 1 = .ok (.iload_n 1, 1) := by decide +kernel
theorem dX10_open_2 : decode cX10_open 2 = .ok (.iconst 0, 1) := by decide +kernel
theorem dX10_open_3 : decode cX10_open 3 = .ok (.iload_n 2, 1) := by decide +kernel
theorem dX10_open_4 : decode cX10_open 4 = .ok (.invokevirtual 27, 3) := by decide +kernel
theorem dX10_open_7 : decode cX10_open 7 = .ok (.aload_n 0, 1) := by decide +kernel
theorem dX10_open_8 : decode cX10_open 8 = .ok (.iload_n 1, 1) := by decide +kernel
theorem dX10_open_9 : decode cX10_open 9 = .ok (.iconst 1, 1) := by decide +kernel
theorem dX10_open_10 : decode cX10_open 10 = .ok (.aload_n 3, 1) := by decide +kernel
theorem dX10_open_11 : decode cX10_open 11 = .ok (.getfield 31, 3) := by decide +kernel
theorem dX10_open_14 : decode cX10_open 14 = .ok (.aload_n 3, 1) := by decide +kernel
theorem dX10_open_15 : decode cX10_open 15 = .ok (.invokevirtual 37, 3) := by decide +kernel
theorem dX10_open_18 : decode cX10_open 18 = .ok (.isub, 1) := by decide +kernel
theorem dX10_open_19 : decode cX10_open 19 = .ok (.invokevirtual 27, 3) := by decide +kernel
theorem dX10_open_22 : decode cX10_open 22 = .ok (.aload_n 0, 1) := by decide +kernel
theorem dX10_open_23 : decode cX10_open 23 = .ok (.iload_n 1, 1) := by decide +kernel
theorem dX10_open_24 : decode cX10_open 24 = .ok (.iconst 2, 1) := by decide +kernel
theorem dX10_open_25 : decode cX10_open 25 = .ok (.aload_n 3, 1) := by decide +kernel
theorem dX10_open_26 : decode cX10_open 26 = .ok (.iconst (-1), 1) := by decide +kernel
theorem dX10_open_27 : decode cX10_open 27 = .ok (.iconst 0, 1) := by decide +kernel
theorem dX10_open_28 : decode cX10_open 28 = .ok (.invokevirtual 41, 3) := by decide +kernel
theorem dX10_open_31 : decode cX10_open 31 = .ok (.invokevirtual 27, 3) := by decide +kernel
theorem dX10_open_34 : decode cX10_open 34 = .ok (.aload_n 0, 1) := by decide +kernel
theorem dX10_open_35 : decode cX10_open 35 = .ok (.iload_n 1, 1) := by decide +kernel
theorem dX10_open_36 : decode cX10_open 36 = .ok (.iconst 3, 1) := by decide +kernel
theorem dX10_open_37 : decode cX10_open 37 = .ok (.aload_n 3, 1) := by decide +kernel
theorem dX10_open_38 : decode cX10_open 38 = .ok (.invokevirtual 45, 3) := by decide +kernel
theorem dX10_open_41 : decode cX10_open 41 = .ok (.invokevirtual 27, 3) := by decide +kernel
theorem dX10_open_44 : decode cX10_open 44 = .ok (.return_, 1) := by decide +kernel
set_option maxRecDepth 20000 in
theorem ggX11_init_X7_init : GoodIn wsX11_init wsX7_init := goodIn_r _ [18, 19, 2, 3, 20, 21, 22, 23, 24, 25, 26, 27, 28, 29, 30, 31, 32, 33, 34, 35, 36, 37, 38, 39, 40, 41, 42, 43, 44, 45, 46, 47, 48, 49, 50, 51, 52, 53, 54, 55, 56, 57, 58, 59, 60, 61, 62, 63, 64, 65, 66, 67, 68, 69, 70, 71, 72, 73, 74, 75, 76, 77, 78, 79, 80, 81, 82, 83, 84, 85, 86, 87, 88, 89, 90, 91, 92, 93, 94, 95, 96, 97, 98, 99, 100, 101, 102, 103, 104, 105, 106, 107, 108, 109, 110, 111, 112, 113, 114, 115, 116, 117, 213, 214, 166, 167, 168, 169, 170, 171, 172, 173, 174, 175, 176, 177, 178, 179, 215, 216, 217, 218, 219, 220, 221, 222, 223, 224, 225, 226, 227, 228, 229, 230, 231, 232, 233, 234, 235, 236, 237, 238, 239, 240, 241, 242, 243, 244, 245, 246, 247, 248, 249, 250, 251, 252] (by decide +kernel) (by decide +kernel)
set_option maxRecDepth 20000 in
theorem gX11_init_X7_init_n9 : GoodIn wsX11_init (wsX7_init) := ggX11_init_X7_init
set_option maxRecDepth 20000 in
theorem ggX11_init_X4_init : GoodIn wsX11_init wsX4_init := goodIn_r _ [119, 120, 2, 3, 121, 122, 123, 124, 125, 25, 26, 126, 127, 128, 129, 130, 131, 132, 133, 134, 135, 136, 137, 138, 139, 140, 21, 22, 141, 142, 143, 144, 145, 55, 56, 57, 58, 59, 60, 61, 62, 63, 64, 65, 66, 67, 68, 69, 70, 71, 72, 253, 254, 255, 256, 257, 184, 185, 186, 187, 188, 189, 190, 191, 192, 193, 194, 195, 215, 216, 217, 218, 219, 220, 221, 222, 213, 214] (by decide +kernel) (by decide +kernel)
set_option maxRecDepth 20000 in
theorem gX11_init_X4_init_n22 : GoodIn wsX11_init (wsX4_init) := ggX11_init_X4_init
set_option maxRecDepth 20000 in
theorem ggX11_init_X1_init : GoodIn wsX11_init wsX1_init := goodIn_r _ [147, 148, 2, 3, 149, 65, 150, 151, 152, 153, 154, 155, 156, 157, 158, 159, 160, 161, 162, 163, 164, 165, 196, 197, 198, 199, 200, 201, 202, 203, 204, 205, 206, 207, 208, 209, 210, 211, 212] (by decide +kernel) (by decide +kernel)
set_option maxRecDepth 20000 in
theorem gX11_init_X1_init_n29 : GoodIn wsX11_init (wsX1_init) := ggX11_init_X1_init
theorem dX11_init_0 : decode cX11_init 0 = .ok (.aload_n 0, 1) := by decide +kernel
theorem dX11_init_1 : decode cX11_init 1 = .ok (.invokespecial 1, 3) := by decide +kernel
theorem dX11_init_4 : decode cX11_init 4 = .ok (.aload_n 0, 1) := by decide +kernel
theorem dX11_init_5 : decode cX11_init 5 = .ok (.new 7, 3) := by decide +kernel
theorem dX11_init_8 : decode cX11_init 8 = .ok (.dup, 1) := by decide +kernel
theorem dX11_init_9 : decode cX11_init 9 = .ok (.invokespecial 9, 3) := by decide +kernel
theorem dX11_init_12 : decode cX11_init 12 = .ok (.putfield 10, 3) := by decide +kernel
theorem dX11_init_15 : decode cX11_init 15 = .ok (.aload_n 0, 1) := by decide +kernel
theorem dX11_init_16 : decode cX11_init 16 = .ok (.iconst 3, 1) := by decide +kernel
theorem dX11_init_17 : decode cX11_init 17 = .ok (.anewarray 7, 3) := by decide +kernel
theorem dX11_init_20 : decode cX11_init 20 = .ok (.putfield 16, 3) := by decide +kernel
theorem dX11_init_23 : decode cX11_init 23 = .ok (.aload_n 0, 1) := by decide +kernel
theorem dX11_init_24 : decode cX11_init 24 = .ok (.new 20, 3) := by decide +kernel
theorem dX11_init_27 : decode cX11_init 27 = .ok (.dup, 1) := by decide +kernel
theorem dX11_init_28 : decode cX11_init 28 = .ok (.invokespecial 22, 3) := by decide +kernel
theorem dX11_init_31 : decode cX11_init 31 = .ok (.putfield 23, 3) := by decide +kernel
theorem dX11_init_34 : decode cX11_init 34 = .ok (.aload_n 0, 1) := by decide +kernel
theorem dX11_init_35 : decode cX11_init 35 = .ok (.new 27, 3) := by decide +kernel
theorem dX11_init_38 : decode cX11_init 38 = .ok (.dup, 1) := by decide +kernel
theorem dX11_init_39 : decode cX11_init 39 = .ok (.invokespecial 29, 3) := by decide +kernel
theorem dX11_init_42 : decode cX11_init 42 = .ok (.putfield 30, 3) := by decide +kernel
theorem dX11_init_45 : decode cX11_init 45 = .ok (.return_, 1) := by decide +kernel
set_option maxRecDepth 20000 in
theorem ggX11_feed_X8_append : GoodIn wsX11_feed wsX8_append := goodIn_r _ [8, 9, 10, 29, 30] (by decide +kernel) (by decide +kernel)
set_option maxRecDepth 20000 in
theorem gX11_feed_X8_append : GoodIn wsX11_feed (wsV RX11 44 RX8 yX8_append wsX8_append) := goodIn_app (goodIn_of _ (by decide +kernel)) ggX11_feed_X8_append
theorem dX11_feed_0 : decode cX11_feed 0 = .ok (.aload_n 0, 1) := by decide +kernel
theorem dX11_feed_1 : decode cX11_feed 1 = .ok (.getfield 10, 3) := by decide +kernel
theorem dX11_feed_4 : decode cX11_feed 4 = .ok (.getfield 34, 3) := by decide +kernel
theorem dX11_feed_7 : decode cX11_feed 7 = .ok (.astore 6, 2) := by decide +kernel
theorem dX11_feed_9 : decode cX11_feed 9 = .ok (.aload 6, 2) := by decide +kernel
theorem dX11_feed_11 : decode cX11_feed 11 = .ok (.getfield 38, 3) := by decide +kernel
theorem dX11_feed_14 : decode cX11_feed 14 = .ok (.bipush 20, 2) := by decide +kernel
theorem dX11_feed_16 : decode cX11_feed 16 = .ok (.iadd, 1) := by decide +kernel
theorem dX11_feed_17 : decode cX11_feed 17 = .ok (.sipush 400, 3) := by decide +kernel
theorem dX11_feed_20 : decode cX11_feed 20 = .ok (.if_icmp .le 5, 3) := by decide +kernel
theorem dX11_feed_23 : decode cX11_feed 23 = .ok (.iconst (-1), 1) := by decide +kernel
theorem dX11_feed_24 : decode cX11_feed 24 = .ok (.ireturn, 1) := by decide +kernel
theorem dX11_feed_25 : decode cX11_feed 25 = .ok (.aload 6, 2) := by decide +kernel
theorem dX11_feed_27 : decode cX11_feed 27 = .ok (.iload_n 1, 1) := by decide +kernel
theorem dX11_feed_28 : decode cX11_feed 28 = .ok (.invokevirtual 44, 3) := by decide +kernel
theorem dX11_feed_31 : decode cX11_feed 31 = .ok (.aload 6, 2) := by decide +kernel
theorem dX11_feed_33 : decode cX11_feed 33 = .ok (.iload_n 2, 1) := by decide +kernel
theorem dX11_feed_34 : decode cX11_feed 34 = .ok (.invokevirtual 44, 3) := by decide +kernel
theorem dX11_feed_37 : decode cX11_feed 37 = .ok (.aload 6, 2) := by decide +kernel
theorem dX11_feed_39 : decode cX11_feed 39 = .ok (.iload_n 3, 1) := by decide +kernel
theorem dX11_feed_40 : decode cX11_feed 40 = .ok (.invokevirtual 44, 3) := by decide +kernel
theorem dX11_feed_43 : decode cX11_feed 43 = .ok (.aload 6, 2) := by decide +kernel
theorem dX11_feed_45 : decode cX11_feed 45 = .ok (.iload 4, 2) := by decide +kernel
theorem dX11_feed_47 : decode cX11_feed 47 = .ok (.invokevirtual 44, 3) := by decide +kernel
theorem dX11_feed_50 : decode cX11_feed 50 = .ok (.aload 6, 2) := by decide +kernel
theorem dX11_feed_52 : decode cX11_feed 52 = .ok (.iload 5, 2) := by decide +kernel
theorem dX11_feed_54 : decode cX11_feed 54 = .ok (.invokevirtual 44, 3) := by decide +kernel
theorem dX11_feed_57 : decode cX11_feed 57 = .ok (.aload 6, 2) := by decide +kernel
theorem dX11_feed_59 : decode cX11_feed 59 = .ok (.getfield 38, 3) := by decide +kernel
theorem dX11_feed_62 : decode cX11_feed 62 = .ok (.ireturn, 1) := by decide +kernel
theorem dX11_end_0 : decode cX11_end 0 = .ok (.iload_n 1, 1) := by decide +kernel
theorem dX11_end_1 : decode cX11_end 1 = .ok (.ifCond .lt 17, 3) := by decide +kernel
theorem dX11_end_4 : decode cX11_end 4 = .ok (.iload_n 1, 1) := by decide +kernel
theorem dX11_end_5 : decode cX11_end 5 = .ok (.aload_n 0, 1) := by decide +kernel
theorem dX11_end_6 : decode cX11_end 6 = .ok (.getfield 10, 3) := by decide +kernel
theorem dX11_end_9 : decode cX11_end 9 = .ok (.getfield 34, 3) := by decide +kernel
theorem dX11_end_12 : decode cX11_end 12 = .ok (.getfield 38, 3) := by decide +kernel
theorem dX11_end_15 : decode cX11_end 15 = .ok (.if_icmp .le 5, 3) := by decide +kernel
theorem dX11_end_18 : decode cX11_end 18 = .ok (.iconst (-1), 1) := by decide +kernel
theorem dX11_end_19 : decode cX11_end 19 = .ok (.ireturn, 1) := by decide +kernel
theorem dX11_end_20 : decode cX11_end 20 = .ok (.aload_n 0, 1) := by decide +kernel
theorem dX11_end_21 : decode cX11_end 21 = .ok (.getfield 10, 3) := by decide +kernel
theorem dX11_end_24 : decode cX11_end 24 = .ok (.getfield 34, 3) := by decide +kernel
theorem dX11_end_27 : decode cX11_end 27 = .ok (.iload_n 1, 1) := by decide +kernel
theorem dX11_end_28 : decode cX11_end 28 = .ok (.putfield 38, 3) := by decide +kernel
theorem dX11_end_31 : decode cX11_end 31 = .ok (.iload_n 1, 1) := by decide +kernel
theorem dX11_end_32 : decode cX11_end 32 = .ok (.ireturn, 1) := by decide +kernel
set_option maxRecDepth 20000 in
theorem ggX11_decree_X4_read : GoodIn wsX11_decree wsX4_read := goodIn_r _ [16, 17, 18, 19, 20, 21, 22, 23, 24, 25, 26, 15, 27, 28, 29, 30, 31, 32, 33, 34, 35, 36, 37, 38, 39, 40, 41, 42, 43, 44, 45, 46, 47, 48, 49, 50, 51, 52, 53, 54, 55, 56, 57, 58, 59, 60, 61, 62, 63, 64, 65, 66, 67, 68, 69, 70, 71, 72, 73, 74, 75, 76, 77, 78, 79, 80, 81, 82, 83, 84, 85, 86, 87, 88, 89, 90, 91, 92, 93, 94, 95, 96, 97, 98, 99, 100, 101, 102, 103, 104, 105, 106, 107, 108, 109, 110, 111, 112, 113, 114, 115, 116, 117, 118, 119, 120, 121, 122, 123, 124, 125, 126, 127, 128, 129, 130, 131, 132, 133, 134, 135, 136, 137, 138, 139, 140, 141, 142, 143, 144, 145, 146, 147, 148, 149, 150, 151, 152, 153, 154, 155, 156, 157, 158, 159, 160, 161, 162, 163, 164, 165, 166, 167, 168, 169, 170, 171, 172, 173, 174, 175, 176, 177, 178, 179, 180, 181, 182, 183, 184, 185, 186, 187, 188, 189, 190, 191, 192, 193, 194, 195, 196, 197, 198, 199, 200, 201, 202, 203, 204, 205, 206, 207, 208, 209, 210, 211, 212, 213, 242, 243, 244, 245, 246, 247, 248, 249, 250, 251, 252, 253, 262, 263, 264, 265, 266, 254, 255, 256, 257, 258, 259, 260, 261, 240, 241] (by decide +kernel) (by decide +kernel)
set_option maxRecDepth 20000 in
theorem gX11_decree_X4_read : GoodIn wsX11_decree (wsV RX11 48 RX4 yX4_read wsX4_read) := goodIn_app (goodIn_of _ (by decide +kernel)) ggX11_decree_X4_read
set_option maxRecDepth 20000 in
theorem ggX11_decree_X3_copyFrom : GoodIn wsX11_decree wsX3_copyFrom := goodIn_r _ [217, 169, 162, 163, 164, 188, 189, 190, 191, 218, 65, 219, 220, 166, 167, 168, 221, 47, 48, 49, 254, 255, 256, 257, 258, 259, 260, 261] (by decide +kernel) (by decide +kernel)
set_option maxRecDepth 20000 in
theorem gX11_decree_X3_copyFrom : GoodIn wsX11_decree (wsV RX11 69 RX3 yX3_copyFrom wsX3_copyFrom) := goodIn_app (goodIn_of _ (by decide +kernel)) ggX11_decree_X3_copyFrom
theorem dX11_decree_0 : decode cX11_decree 0 = .ok (.aload_n 0, 1) := by decide +kernel
theorem dX11_decree_1 : decode cX11_decree 1 = .ok (.getfield 23, 3) := by decide +kernel
theorem dX11_decree_4 : decode cX11_decree 4 = .ok (.aload_n 0, 1) := by decide +kernel
theorem dX11_decree_5 : decode cX11_decree 5 = .ok (.getfield 10, 3) := by decide +kernel
theorem dX11_decree_8 : decode cX11_decree 8 = .ok (.getfield 34, 3) := by decide +kernel
theorem dX11_decree_11 : decode cX11_decree 11 = .ok (.invokevirtual 48, 3) := by decide +kernel
theorem dX11_decree_14 : decode cX11_decree 14 = .ok (.aload_n 0, 1) := by decide +kernel
theorem dX11_decree_15 : decode cX11_decree 15 = .ok (.getfield 10, 3) := by decide +kernel
theorem dX11_decree_18 : decode cX11_decree 18 = .ok (.getfield 34, 3) := by decide +kernel
theorem dX11_decree_21 : decode cX11_decree 21 = .ok (.iconst 0, 1) := by decide +kernel
theorem dX11_decree_22 : decode cX11_decree 22 = .ok (.putfield 38, 3) := by decide +kernel
theorem dX11_decree_25 : decode cX11_decree 25 = .ok (.aload_n 0, 1) := by decide +kernel
theorem dX11_decree_26 : decode cX11_decree 26 = .ok (.getfield 10, 3) := by decide +kernel
theorem dX11_decree_29 : decode cX11_decree 29 = .ok (.aload_n 0, 1) := by decide +kernel
theorem dX11_decree_30 : decode cX11_decree 30 = .ok (.getfield 23, 3) := by decide +kernel
theorem dX11_decree_33 : decode cX11_decree 33 = .ok (.getfield 52, 3) := by decide +kernel
theorem dX11_decree_36 : decode cX11_decree 36 = .ok (.putfield 55, 3) := by decide +kernel
theorem dX11_decree_39 : decode cX11_decree 39 = .ok (.aload_n 0, 1) := by decide +kernel
theorem dX11_decree_40 : decode cX11_decree 40 = .ok (.getfield 10, 3) := by decide +kernel
theorem dX11_decree_43 : decode cX11_decree 43 = .ok (.aload_n 0, 1) := by decide +kernel
theorem dX11_decree_44 : decode cX11_decree 44 = .ok (.getfield 23, 3) := by decide +kernel
theorem dX11_decree_47 : decode cX11_decree 47 = .ok (.getfield 56, 3) := by decide +kernel
theorem dX11_decree_50 : decode cX11_decree 50 = .ok (.putfield 59, 3) := by decide +kernel
theorem dX11_decree_53 : decode cX11_decree 53 = .ok (.aload_n 0, 1) := by decide +kernel
theorem dX11_decree_54 : decode cX11_decree 54 = .ok (.getfield 23, 3) := by decide +kernel
theorem dX11_decree_57 : decode cX11_decree 57 = .ok (.getfield 52, 3) := by decide +kernel
theorem dX11_decree_60 : decode cX11_decree 60 = .ok (.ifCond .eq 5, 3) := by decide +kernel
theorem dX11_decree_63 : decode cX11_decree 63 = .ok (.iconst (-1), 1) := by decide +kernel
theorem dX11_decree_64 : decode cX11_decree 64 = .ok (.ireturn, 1) := by decide +kernel
theorem dX11_decree_65 : decode cX11_decree 65 = .ok (.aload_n 0, 1) := by decide +kernel
theorem dX11_decree_66 : decode cX11_decree 66 = .ok (.getfield 10, 3) := by decide +kernel
theorem dX11_decree_69 : decode cX11_decree 69 = .ok (.getfield 62, 3) := by decide +kernel
theorem dX11_decree_72 : decode cX11_decree 72 = .ok (.aload_n 0, 1) := by decide +kernel
theorem dX11_decree_73 : decode cX11_decree 73 = .ok (.getfield 23, 3) := by decide +kernel
theorem dX11_decree_76 : decode cX11_decree 76 = .ok (.getfield 66, 3) := by decide +kernel
theorem dX11_decree_79 : decode cX11_decree 79 = .ok (.invokevirtual 69, 3) := by decide +kernel
theorem dX11_decree_82 : decode cX11_decree 82 = .ok (.aload_n 0, 1) := by decide +kernel
theorem dX11_decree_83 : decode cX11_decree 83 = .ok (.getfield 10, 3) := by decide +kernel
theorem dX11_decree_86 : decode cX11_decree 86 = .ok (.getfield 62, 3) := by decide +kernel
theorem dX11_decree_89 : decode cX11_decree 89 = .ok (.getfield 75, 3) := by decide +kernel
theorem dX11_decree_92 : decode cX11_decree 92 = .ok (.ireturn, 1) := by decide +kernel
theorem dX11_fault_0 : decode cX11_fault 0 = .ok (.iload_n 1, 1) := by decide +kernel
theorem dX11_fault_1 : decode cX11_fault 1 = .ok (.lookupswitch 43 #[(0, 27), (1, 35)], 27) := by decide +kernel
theorem dX11_fault_28 : decode cX11_fault 28 = .ok (.aload_n 0, 1) := by decide +kernel
theorem dX11_fault_29 : decode cX11_fault 29 = .ok (.getfield 10, 3) := by decide +kernel
theorem dX11_fault_32 : decode cX11_fault 32 = .ok (.getfield 55, 3) := by decide +kernel
theorem dX11_fault_35 : decode cX11_fault 35 = .ok (.ireturn, 1) := by decide +kernel
theorem dX11_fault_36 : decode cX11_fault 36 = .ok (.aload_n 0, 1) := by decide +kernel
theorem dX11_fault_37 : decode cX11_fault 37 = .ok (.getfield 10, 3) := by decide +kernel
theorem dX11_fault_40 : decode cX11_fault 40 = .ok (.getfield 59, 3) := by decide +kernel
theorem dX11_fault_43 : decode cX11_fault 43 = .ok (.ireturn, 1) := by decide +kernel
theorem dX11_fault_44 : decode cX11_fault 44 = .ok (.iconst (-1), 1) := by decide +kernel
theorem dX11_fault_45 : decode cX11_fault 45 = .ok (.ireturn, 1) := by decide +kernel
set_option maxRecDepth 20000 in
theorem ggX11_citizen_X11_within : GoodIn wsX11_citizen wsX11_within := goodIn_r _ [6] (by decide +kernel) (by decide +kernel)
set_option maxRecDepth 20000 in
theorem gX11_citizen_X11_within : GoodIn wsX11_citizen (va_wsS RX11 78 yX11_within wsX11_within) := goodIn_app (goodIn_of _ (by decide +kernel)) ggX11_citizen_X11_within
set_option maxRecDepth 20000 in
theorem ggX11_citizen_X2_enter : GoodIn wsX11_citizen wsX2_enter := goodIn_r _ [11, 12, 13, 14, 33, 34, 35, 36, 37, 38, 39, 40, 41, 42] (by decide +kernel) (by decide +kernel)
set_option maxRecDepth 20000 in
theorem gX11_citizen_X2_enter : GoodIn wsX11_citizen (wsV RX11 86 RX2 yX2_enter wsX2_enter) := goodIn_app (goodIn_of _ (by decide +kernel)) ggX11_citizen_X2_enter
theorem dX11_citizen_0 : decode cX11_citizen 0 = .ok (.iload_n 1, 1) := by decide +kernel
theorem dX11_citizen_1 : decode cX11_citizen 1 = .ok (.iconst 0, 1) := by decide +kernel
theorem dX11_citizen_2 : decode cX11_citizen 2 = .ok (.bipush 9, 2) := by decide +kernel
theorem dX11_citizen_4 : decode cX11_citizen 4 = .ok (.invokestatic 78, 3) := by decide +kernel
theorem dX11_citizen_7 : decode cX11_citizen 7 = .ok (.ifCond .ne 5, 3) := by decide +kernel
theorem dX11_citizen_10 : decode cX11_citizen 10 = .ok (.iconst (-1), 1) := by decide +kernel
theorem dX11_citizen_11 : decode cX11_citizen 11 = .ok (.ireturn, 1) := by decide +kernel
theorem dX11_citizen_12 : decode cX11_citizen 12 = .ok (.aload_n 0, 1) := by decide +kernel
theorem dX11_citizen_13 : decode cX11_citizen 13 = .ok (.getfield 10, 3) := by decide +kernel
theorem dX11_citizen_16 : decode cX11_citizen 16 = .ok (.getfield 82, 3) := by decide +kernel
theorem dX11_citizen_19 : decode cX11_citizen 19 = .ok (.iload_n 1, 1) := by decide +kernel
theorem dX11_citizen_20 : decode cX11_citizen 20 = .ok (.iload_n 2, 1) := by decide +kernel
theorem dX11_citizen_21 : decode cX11_citizen 21 = .ok (.invokevirtual 86, 3) := by decide +kernel
theorem dX11_citizen_24 : decode cX11_citizen 24 = .ok (.ireturn, 1) := by decide +kernel
set_option maxRecDepth 20000 in
theorem ggX11_rule_X6_change : GoodIn wsX11_rule wsX6_change := goodIn_r _ [7, 8, 9, 10, 11, 12, 13, 6, 14, 15, 16, 17, 36, 37, 38, 39] (by decide +kernel) (by decide +kernel)
set_option maxRecDepth 20000 in
theorem gX11_rule_X6_change : GoodIn wsX11_rule (wsV RX11 96 RX6 yX6_change wsX6_change) := goodIn_app (goodIn_of _ (by decide +kernel)) ggX11_rule_X6_change
theorem dX11_rule_0 : decode cX11_rule 0 = .ok (.aload_n 0, 1) := by decide +kernel
theorem dX11_rule_1 : decode cX11_rule 1 = .ok (.getfield 10, 3) := by decide +kernel
theorem dX11_rule_4 : decode cX11_rule 4 = .ok (.getfield 92, 3) := by decide +kernel
theorem dX11_rule_7 : decode cX11_rule 7 = .ok (.iload_n 1, 1) := by decide +kernel
theorem dX11_rule_8 : decode cX11_rule 8 = .ok (.iload_n 2, 1) := by decide +kernel
theorem dX11_rule_9 : decode cX11_rule 9 = .ok (.invokevirtual 96, 3) := by decide +kernel
theorem dX11_rule_12 : decode cX11_rule 12 = .ok (.ireturn, 1) := by decide +kernel
set_option maxRecDepth 20000 in
theorem ggX11_give_X11_within : GoodIn wsX11_give wsX11_within := goodIn_r _ [7] (by decide +kernel) (by decide +kernel)
set_option maxRecDepth 20000 in
theorem gX11_give_X11_within : GoodIn wsX11_give (va_wsS RX11 78 yX11_within wsX11_within) := goodIn_app (goodIn_of _ (by decide +kernel)) ggX11_give_X11_within
set_option maxRecDepth 20000 in
theorem ggX11_give_X7_shareOut : GoodIn wsX11_give wsX7_shareOut := goodIn_r _ [12, 13, 14, 15, 16, 17, 18, 19, 11, 20, 21, 22, 23, 24, 25, 26, 27, 28, 29, 30, 31, 32, 33, 34, 35, 36, 37, 38, 39, 40, 41, 42, 43, 44, 45, 46, 47, 48, 49, 50, 51, 52, 53, 54, 55, 56, 57, 58, 59, 60, 61, 62, 63, 64, 6, 65, 66, 67, 68, 69, 70, 71, 72, 73, 78, 79, 80, 81, 82, 83, 84, 85, 86, 87, 88, 89, 90, 91, 92, 93, 94, 95, 96, 97, 98, 99, 100, 101, 102, 103, 104, 105, 106, 107, 108, 109] (by decide +kernel) (by decide +kernel)
set_option maxRecDepth 20000 in
theorem gX11_give_X7_shareOut : GoodIn wsX11_give (wsV RX11 109 RX7 yX7_shareOut wsX7_shareOut) := goodIn_app (goodIn_of _ (by decide +kernel)) ggX11_give_X7_shareOut
theorem dX11_give_0 : decode cX11_give 0 = .ok (.aload_n 0, 1) := by decide +kernel
theorem dX11_give_1 : decode cX11_give 1 = .ok (.getfield 10, 3) := by decide +kernel
theorem dX11_give_4 : decode cX11_give 4 = .ok (.getfield 102, 3) := by decide +kernel
theorem dX11_give_7 : decode cX11_give 7 = .ok (.ifCond .ne 24, 3) := by decide +kernel
theorem dX11_give_10 : decode cX11_give 10 = .ok (.aload_n 0, 1) := by decide +kernel
theorem dX11_give_11 : decode cX11_give 11 = .ok (.getfield 10, 3) := by decide +kernel
theorem dX11_give_14 : decode cX11_give 14 = .ok (.getfield 106, 3) := by decide +kernel
theorem dX11_give_17 : decode cX11_give 17 = .ok (.ifCond .gt 14, 3) := by decide +kernel
theorem dX11_give_20 : decode cX11_give 20 = .ok (.iload_n 1, 1) := by decide +kernel
theorem dX11_give_21 : decode cX11_give 21 = .ok (.iconst 1, 1) := by decide +kernel
theorem dX11_give_22 : decode cX11_give 22 = .ok (.sipush 400, 3) := by decide +kernel
theorem dX11_give_25 : decode cX11_give 25 = .ok (.invokestatic 78, 3) := by decide +kernel
theorem dX11_give_28 : decode cX11_give 28 = .ok (.ifCond .ne 5, 3) := by decide +kernel
theorem dX11_give_31 : decode cX11_give 31 = .ok (.iconst 0, 1) := by decide +kernel
theorem dX11_give_32 : decode cX11_give 32 = .ok (.ireturn, 1) := by decide +kernel
theorem dX11_give_33 : decode cX11_give 33 = .ok (.aload_n 0, 1) := by decide +kernel
theorem dX11_give_34 : decode cX11_give 34 = .ok (.getfield 10, 3) := by decide +kernel
theorem dX11_give_37 : decode cX11_give 37 = .ok (.iload_n 1, 1) := by decide +kernel
theorem dX11_give_38 : decode cX11_give 38 = .ok (.invokevirtual 109, 3) := by decide +kernel
theorem dX11_give_41 : decode cX11_give 41 = .ok (.ireturn, 1) := by decide +kernel
set_option maxRecDepth 20000 in
theorem ggX11_sell_X2_areTwo : GoodIn wsX11_sell wsX2_areTwo := goodIn_r _ [9, 10, 11, 12, 8, 13, 14, 15, 16, 17, 63, 64, 65, 66, 67, 68, 69, 70, 71, 72] (by decide +kernel) (by decide +kernel)
set_option maxRecDepth 20000 in
theorem gX11_sell_X2_areTwo : GoodIn wsX11_sell (wsV RX11 113 RX2 yX2_areTwo wsX2_areTwo) := goodIn_app (goodIn_of _ (by decide +kernel)) ggX11_sell_X2_areTwo
set_option maxRecDepth 20000 in
theorem ggX11_sell_X11_within : GoodIn wsX11_sell wsX11_within := goodIn_r _ [17] (by decide +kernel) (by decide +kernel)
set_option maxRecDepth 20000 in
theorem gX11_sell_X11_within : GoodIn wsX11_sell (va_wsS RX11 78 yX11_within wsX11_within) := goodIn_app (goodIn_of _ (by decide +kernel)) ggX11_sell_X11_within
set_option maxRecDepth 20000 in
theorem ggX11_sell_X7_freeSlips : GoodIn wsX11_sell wsX7_freeSlips := goodIn_r _ [23, 24, 25, 26, 27, 28, 29, 30, 31, 32, 33, 34, 35, 36, 37, 38, 39, 49, 50, 51, 52, 53, 54, 55, 56, 57, 58, 59, 60, 61, 62, 63, 64, 65, 66, 67, 68, 69, 70, 71, 72, 73, 74, 75, 76, 77, 78, 79, 80, 81, 82] (by decide +kernel) (by decide +kernel)
set_option maxRecDepth 20000 in
theorem gX11_sell_X7_freeSlips : GoodIn wsX11_sell (wsV RX11 116 RX7 yX7_freeSlips wsX7_freeSlips) := goodIn_app (goodIn_of _ (by decide +kernel)) ggX11_sell_X7_freeSlips
set_option maxRecDepth 20000 in
theorem ggX11_sell_X2_pay : GoodIn wsX11_sell wsX2_pay := goodIn_r _ [43, 44, 63, 64, 65, 66, 67, 68, 69, 70, 71, 72] (by decide +kernel) (by decide +kernel)
set_option maxRecDepth 20000 in
theorem gX11_sell_X2_pay : GoodIn wsX11_sell (wsV RX11 124 RX2 yX2_pay wsX2_pay) := goodIn_app (goodIn_of _ (by decide +kernel)) ggX11_sell_X2_pay
theorem dX11_sell_0 : decode cX11_sell 0 = .ok (.aload_n 0, 1) := by decide +kernel
theorem dX11_sell_1 : decode cX11_sell 1 = .ok (.getfield 10, 3) := by decide +kernel
theorem dX11_sell_4 : decode cX11_sell 4 = .ok (.getfield 102, 3) := by decide +kernel
theorem dX11_sell_7 : decode cX11_sell 7 = .ok (.ifCond .ne 30, 3) := by decide +kernel
theorem dX11_sell_10 : decode cX11_sell 10 = .ok (.aload_n 0, 1) := by decide +kernel
theorem dX11_sell_11 : decode cX11_sell 11 = .ok (.getfield 10, 3) := by decide +kernel
theorem dX11_sell_14 : decode cX11_sell 14 = .ok (.getfield 82, 3) := by decide +kernel
theorem dX11_sell_17 : decode cX11_sell 17 = .ok (.iload_n 1, 1) := by decide +kernel
theorem dX11_sell_18 : decode cX11_sell 18 = .ok (.iload_n 2, 1) := by decide +kernel
theorem dX11_sell_19 : decode cX11_sell 19 = .ok (.invokevirtual 113, 3) := by decide +kernel
theorem dX11_sell_22 : decode cX11_sell 22 = .ok (.ifCond .eq 15, 3) := by decide +kernel
theorem dX11_sell_25 : decode cX11_sell 25 = .ok (.iload 4, 2) := by decide +kernel
theorem dX11_sell_27 : decode cX11_sell 27 = .ok (.iconst 0, 1) := by decide +kernel
theorem dX11_sell_28 : decode cX11_sell 28 = .ok (.sipush 10000, 3) := by decide +kernel
theorem dX11_sell_31 : decode cX11_sell 31 = .ok (.invokestatic 78, 3) := by decide +kernel
theorem dX11_sell_34 : decode cX11_sell 34 = .ok (.ifCond .ne 5, 3) := by decide +kernel
theorem dX11_sell_37 : decode cX11_sell 37 = .ok (.iconst 0, 1) := by decide +kernel
theorem dX11_sell_38 : decode cX11_sell 38 = .ok (.ireturn, 1) := by decide +kernel
theorem dX11_sell_39 : decode cX11_sell 39 = .ok (.iload_n 3, 1) := by decide +kernel
theorem dX11_sell_40 : decode cX11_sell 40 = .ok (.iconst 1, 1) := by decide +kernel
theorem dX11_sell_41 : decode cX11_sell 41 = .ok (.aload_n 0, 1) := by decide +kernel
theorem dX11_sell_42 : decode cX11_sell 42 = .ok (.getfield 10, 3) := by decide +kernel
theorem dX11_sell_45 : decode cX11_sell 45 = .ok (.iload_n 1, 1) := by decide +kernel
theorem dX11_sell_46 : decode cX11_sell 46 = .ok (.invokevirtual 116, 3) := by decide +kernel
theorem dX11_sell_49 : decode cX11_sell 49 = .ok (.invokestatic 78, 3) := by decide +kernel
theorem dX11_sell_52 : decode cX11_sell 52 = .ok (.ifCond .ne 5, 3) := by decide +kernel
theorem dX11_sell_55 : decode cX11_sell 55 = .ok (.iconst 0, 1) := by decide +kernel
theorem dX11_sell_56 : decode cX11_sell 56 = .ok (.ireturn, 1) := by decide +kernel
theorem dX11_sell_57 : decode cX11_sell 57 = .ok (.aload_n 0, 1) := by decide +kernel
theorem dX11_sell_58 : decode cX11_sell 58 = .ok (.getfield 10, 3) := by decide +kernel
theorem dX11_sell_61 : decode cX11_sell 61 = .ok (.getfield 82, 3) := by decide +kernel
theorem dX11_sell_64 : decode cX11_sell 64 = .ok (.getfield 120, 3) := by decide +kernel
theorem dX11_sell_67 : decode cX11_sell 67 = .ok (.iload_n 1, 1) := by decide +kernel
theorem dX11_sell_68 : decode cX11_sell 68 = .ok (.dup2, 1) := by decide +kernel
theorem dX11_sell_69 : decode cX11_sell 69 = .ok (.iaload, 1) := by decide +kernel
theorem dX11_sell_70 : decode cX11_sell 70 = .ok (.iload_n 3, 1) := by decide +kernel
theorem dX11_sell_71 : decode cX11_sell 71 = .ok (.isub, 1) := by decide +kernel
theorem dX11_sell_72 : decode cX11_sell 72 = .ok (.iastore, 1) := by decide +kernel
theorem dX11_sell_73 : decode cX11_sell 73 = .ok (.aload_n 0, 1) := by decide +kernel
theorem dX11_sell_74 : decode cX11_sell 74 = .ok (.getfield 10, 3) := by decide +kernel
theorem dX11_sell_77 : decode cX11_sell 77 = .ok (.getfield 82, 3) := by decide +kernel
theorem dX11_sell_80 : decode cX11_sell 80 = .ok (.getfield 120, 3) := by decide +kernel
theorem dX11_sell_83 : decode cX11_sell 83 = .ok (.iload_n 2, 1) := by decide +kernel
theorem dX11_sell_84 : decode cX11_sell 84 = .ok (.dup2, 1) := by decide +kernel
theorem dX11_sell_85 : decode cX11_sell 85 = .ok (.iaload, 1) := by decide +kernel
theorem dX11_sell_86 : decode cX11_sell 86 = .ok (.iload_n 3, 1) := by decide +kernel
theorem dX11_sell_87 : decode cX11_sell 87 = .ok (.iadd, 1) := by decide +kernel
theorem dX11_sell_88 : decode cX11_sell 88 = .ok (.iastore, 1) := by decide +kernel
theorem dX11_sell_89 : decode cX11_sell 89 = .ok (.aload_n 0, 1) := by decide +kernel
theorem dX11_sell_90 : decode cX11_sell 90 = .ok (.getfield 10, 3) := by decide +kernel
theorem dX11_sell_93 : decode cX11_sell 93 = .ok (.getfield 82, 3) := by decide +kernel
theorem dX11_sell_96 : decode cX11_sell 96 = .ok (.iload_n 2, 1) := by decide +kernel
theorem dX11_sell_97 : decode cX11_sell 97 = .ok (.iload_n 1, 1) := by decide +kernel
theorem dX11_sell_98 : decode cX11_sell 98 = .ok (.iload 4, 2) := by decide +kernel
theorem dX11_sell_100 : decode cX11_sell 100 = .ok (.invokevirtual 124, 3) := by decide +kernel
theorem dX11_sell_103 : decode cX11_sell 103 = .ok (.iconst 1, 1) := by decide +kernel
theorem dX11_sell_104 : decode cX11_sell 104 = .ok (.ireturn, 1) := by decide +kernel
set_option maxRecDepth 20000 in
theorem ggX11_bale_X2_has : GoodIn wsX11_bale wsX2_has := goodIn_r _ [9, 10, 11, 12, 13, 51, 52, 53, 54, 55, 56, 57, 58, 59, 60] (by decide +kernel) (by decide +kernel)
set_option maxRecDepth 20000 in
theorem gX11_bale_X2_has : GoodIn wsX11_bale (wsV RX11 128 RX2 yX2_has wsX2_has) := goodIn_app (goodIn_of _ (by decide +kernel)) ggX11_bale_X2_has
set_option maxRecDepth 20000 in
theorem ggX11_bale_X11_within : GoodIn wsX11_bale wsX11_within := goodIn_r _ [13] (by decide +kernel) (by decide +kernel)
set_option maxRecDepth 20000 in
theorem gX11_bale_X11_within : GoodIn wsX11_bale (va_wsS RX11 78 yX11_within wsX11_within) := goodIn_app (goodIn_of _ (by decide +kernel)) ggX11_bale_X11_within
set_option maxRecDepth 20000 in
theorem ggX11_bale_X0_enter : GoodIn wsX11_bale wsX0_enter := goodIn_r _ [19, 20, 21, 22, 23, 24, 25, 26, 27, 28, 29, 18, 30, 31, 32, 61, 62, 63, 64, 65, 66, 67, 68, 69, 70] (by decide +kernel) (by decide +kernel)
set_option maxRecDepth 20000 in
theorem gX11_bale_X0_enter : GoodIn wsX11_bale (wsV RX11 135 RX0 yX0_enter wsX0_enter) := goodIn_app (goodIn_of _ (by decide +kernel)) ggX11_bale_X0_enter
theorem dX11_bale_0 : decode cX11_bale 0 = .ok (.aload_n 0, 1) := by decide +kernel
theorem dX11_bale_1 : decode cX11_bale 1 = .ok (.getfield 10, 3) := by decide +kernel
theorem dX11_bale_4 : decode cX11_bale 4 = .ok (.getfield 102, 3) := by decide +kernel
theorem dX11_bale_7 : decode cX11_bale 7 = .ok (.ifCond .ne 17, 3) := by decide +kernel
theorem dX11_bale_10 : decode cX11_bale 10 = .ok (.aload_n 0, 1) := by decide +kernel
theorem dX11_bale_11 : decode cX11_bale 11 = .ok (.getfield 10, 3) := by decide +kernel
theorem dX11_bale_14 : decode cX11_bale 14 = .ok (.getfield 82, 3) := by decide +kernel
theorem dX11_bale_17 : decode cX11_bale 17 = .ok (.iload_n 1, 1) := by decide +kernel
theorem dX11_bale_18 : decode cX11_bale 18 = .ok (.invokevirtual 128, 3) := by decide +kernel
theorem dX11_bale_21 : decode cX11_bale 21 = .ok (.ifCond .ne 5, 3) := by decide +kernel
theorem dX11_bale_24 : decode cX11_bale 24 = .ok (.iconst (-1), 1) := by decide +kernel
theorem dX11_bale_25 : decode cX11_bale 25 = .ok (.ireturn, 1) := by decide +kernel
theorem dX11_bale_26 : decode cX11_bale 26 = .ok (.iload_n 2, 1) := by decide +kernel
theorem dX11_bale_27 : decode cX11_bale 27 = .ok (.iconst 1, 1) := by decide +kernel
theorem dX11_bale_28 : decode cX11_bale 28 = .ok (.bipush 40, 2) := by decide +kernel
theorem dX11_bale_30 : decode cX11_bale 30 = .ok (.invokestatic 78, 3) := by decide +kernel
theorem dX11_bale_33 : decode cX11_bale 33 = .ok (.ifCond .eq 26, 3) := by decide +kernel
theorem dX11_bale_36 : decode cX11_bale 36 = .ok (.iload_n 3, 1) := by decide +kernel
theorem dX11_bale_37 : decode cX11_bale 37 = .ok (.iconst 1, 1) := by decide +kernel
theorem dX11_bale_38 : decode cX11_bale 38 = .ok (.sipush 200, 3) := by decide +kernel
theorem dX11_bale_41 : decode cX11_bale 41 = .ok (.invokestatic 78, 3) := by decide +kernel
theorem dX11_bale_44 : decode cX11_bale 44 = .ok (.ifCond .eq 15, 3) := by decide +kernel
theorem dX11_bale_47 : decode cX11_bale 47 = .ok (.iload 4, 2) := by decide +kernel
theorem dX11_bale_49 : decode cX11_bale 49 = .ok (.iconst 1, 1) := by decide +kernel
theorem dX11_bale_50 : decode cX11_bale 50 = .ok (.sipush 1000, 3) := by decide +kernel
theorem dX11_bale_53 : decode cX11_bale 53 = .ok (.invokestatic 78, 3) := by decide +kernel
theorem dX11_bale_56 : decode cX11_bale 56 = .ok (.ifCond .ne 5, 3) := by decide +kernel
theorem dX11_bale_59 : decode cX11_bale 59 = .ok (.iconst (-1), 1) := by decide +kernel
theorem dX11_bale_60 : decode cX11_bale 60 = .ok (.ireturn, 1) := by decide +kernel
theorem dX11_bale_61 : decode cX11_bale 61 = .ok (.aload_n 0, 1) := by decide +kernel
theorem dX11_bale_62 : decode cX11_bale 62 = .ok (.getfield 10, 3) := by decide +kernel
theorem dX11_bale_65 : decode cX11_bale 65 = .ok (.getfield 131, 3) := by decide +kernel
theorem dX11_bale_68 : decode cX11_bale 68 = .ok (.iload_n 1, 1) := by decide +kernel
theorem dX11_bale_69 : decode cX11_bale 69 = .ok (.iload_n 2, 1) := by decide +kernel
theorem dX11_bale_70 : decode cX11_bale 70 = .ok (.iload_n 3, 1) := by decide +kernel
theorem dX11_bale_71 : decode cX11_bale 71 = .ok (.iload 4, 2) := by decide +kernel
theorem dX11_bale_73 : decode cX11_bale 73 = .ok (.invokevirtual 135, 3) := by decide +kernel
theorem dX11_bale_76 : decode cX11_bale 76 = .ok (.ireturn, 1) := by decide +kernel
set_option maxRecDepth 20000 in
theorem ggX11_press_X0_waits : GoodIn wsX11_press wsX0_waits := goodIn_r _ [9, 10, 11, 12, 13, 8, 14, 15, 16, 17, 18, 38, 39, 40, 41, 42, 43, 44, 45, 46, 47] (by decide +kernel) (by decide +kernel)
set_option maxRecDepth 20000 in
theorem gX11_press_X0_waits : GoodIn wsX11_press (wsV RX11 140 RX0 yX0_waits wsX0_waits) := goodIn_app (goodIn_of _ (by decide +kernel)) ggX11_press_X0_waits
set_option maxRecDepth 20000 in
theorem ggX11_press_X11_within : GoodIn wsX11_press wsX11_within := goodIn_r _ [18] (by decide +kernel) (by decide +kernel)
set_option maxRecDepth 20000 in
theorem gX11_press_X11_within : GoodIn wsX11_press (va_wsS RX11 78 yX11_within wsX11_within) := goodIn_app (goodIn_of _ (by decide +kernel)) ggX11_press_X11_within
theorem dX11_press_0 : decode cX11_press 0 = .ok (.aload_n 0, 1) := by decide +kernel
theorem dX11_press_1 : decode cX11_press 1 = .ok (.getfield 10, 3) := by decide +kernel
theorem dX11_press_4 : decode cX11_press 4 = .ok (.getfield 102, 3) := by decide +kernel
theorem dX11_press_7 : decode cX11_press 7 = .ok (.ifCond .ne 26, 3) := by decide +kernel
theorem dX11_press_10 : decode cX11_press 10 = .ok (.aload_n 0, 1) := by decide +kernel
theorem dX11_press_11 : decode cX11_press 11 = .ok (.getfield 10, 3) := by decide +kernel
theorem dX11_press_14 : decode cX11_press 14 = .ok (.getfield 131, 3) := by decide +kernel
theorem dX11_press_17 : decode cX11_press 17 = .ok (.iload_n 1, 1) := by decide +kernel
theorem dX11_press_18 : decode cX11_press 18 = .ok (.invokevirtual 140, 3) := by decide +kernel
theorem dX11_press_21 : decode cX11_press 21 = .ok (.ifCond .eq 12, 3) := by decide +kernel
theorem dX11_press_24 : decode cX11_press 24 = .ok (.iload_n 2, 1) := by decide +kernel
theorem dX11_press_25 : decode cX11_press 25 = .ok (.iconst 0, 1) := by decide +kernel
theorem dX11_press_26 : decode cX11_press 26 = .ok (.iconst 3, 1) := by decide +kernel
theorem dX11_press_27 : decode cX11_press 27 = .ok (.invokestatic 78, 3) := by decide +kernel
theorem dX11_press_30 : decode cX11_press 30 = .ok (.ifCond .ne 5, 3) := by decide +kernel
theorem dX11_press_33 : decode cX11_press 33 = .ok (.iconst 0, 1) := by decide +kernel
theorem dX11_press_34 : decode cX11_press 34 = .ok (.ireturn, 1) := by decide +kernel
theorem dX11_press_35 : decode cX11_press 35 = .ok (.aload_n 0, 1) := by decide +kernel
theorem dX11_press_36 : decode cX11_press 36 = .ok (.getfield 10, 3) := by decide +kernel
theorem dX11_press_39 : decode cX11_press 39 = .ok (.getfield 131, 3) := by decide +kernel
theorem dX11_press_42 : decode cX11_press 42 = .ok (.getfield 143, 3) := by decide +kernel
theorem dX11_press_45 : decode cX11_press 45 = .ok (.iload_n 1, 1) := by decide +kernel
theorem dX11_press_46 : decode cX11_press 46 = .ok (.iload_n 2, 1) := by decide +kernel
theorem dX11_press_47 : decode cX11_press 47 = .ok (.iastore, 1) := by decide +kernel
theorem dX11_press_48 : decode cX11_press 48 = .ok (.iconst 1, 1) := by decide +kernel
theorem dX11_press_49 : decode cX11_press 49 = .ok (.ireturn, 1) := by decide +kernel
set_option maxRecDepth 20000 in
theorem ggX11_lade_X11_within : GoodIn wsX11_lade wsX11_within := goodIn_r _ [6] (by decide +kernel) (by decide +kernel)
set_option maxRecDepth 20000 in
theorem gX11_lade_X11_within : GoodIn wsX11_lade (va_wsS RX11 78 yX11_within wsX11_within) := goodIn_app (goodIn_of _ (by decide +kernel)) ggX11_lade_X11_within
set_option maxRecDepth 20000 in
theorem ggX11_lade_X7_layBale : GoodIn wsX11_lade wsX7_layBale := goodIn_r _ [11, 12, 13, 14, 15, 16, 17, 18, 19, 20, 21, 22, 23, 24, 25, 26, 4, 5, 6, 27, 28, 29, 30, 31, 32, 33, 34, 35, 36, 37, 38, 39, 40, 41, 10, 42, 43, 44, 45, 46, 47, 48, 53, 54, 55, 56, 57, 58, 59, 60, 61, 62, 63, 64, 65, 66, 67, 68, 69, 70, 71, 72, 73, 74, 75, 76, 77, 78, 79, 80, 81, 82, 83, 84, 85, 86] (by decide +kernel) (by decide +kernel)
set_option maxRecDepth 20000 in
theorem gX11_lade_X7_layBale : GoodIn wsX11_lade (wsV RX11 146 RX7 yX7_layBale wsX7_layBale) := goodIn_app (goodIn_of _ (by decide +kernel)) ggX11_lade_X7_layBale
theorem dX11_lade_0 : decode cX11_lade 0 = .ok (.aload_n 0, 1) := by decide +kernel
theorem dX11_lade_1 : decode cX11_lade 1 = .ok (.getfield 10, 3) := by decide +kernel
theorem dX11_lade_4 : decode cX11_lade 4 = .ok (.getfield 102, 3) := by decide +kernel
theorem dX11_lade_7 : decode cX11_lade 7 = .ok (.ifCond .ne 12, 3) := by decide +kernel
theorem dX11_lade_10 : decode cX11_lade 10 = .ok (.iload_n 3, 1) := by decide +kernel
theorem dX11_lade_11 : decode cX11_lade 11 = .ok (.iconst 0, 1) := by decide +kernel
theorem dX11_lade_12 : decode cX11_lade 12 = .ok (.iconst 1, 1) := by decide +kernel
theorem dX11_lade_13 : decode cX11_lade 13 = .ok (.invokestatic 78, 3) := by decide +kernel
theorem dX11_lade_16 : decode cX11_lade 16 = .ok (.ifCond .ne 5, 3) := by decide +kernel
theorem dX11_lade_19 : decode cX11_lade 19 = .ok (.iconst 0, 1) := by decide +kernel
theorem dX11_lade_20 : decode cX11_lade 20 = .ok (.ireturn, 1) := by decide +kernel
theorem dX11_lade_21 : decode cX11_lade 21 = .ok (.aload_n 0, 1) := by decide +kernel
theorem dX11_lade_22 : decode cX11_lade 22 = .ok (.getfield 10, 3) := by decide +kernel
theorem dX11_lade_25 : decode cX11_lade 25 = .ok (.iload_n 1, 1) := by decide +kernel
theorem dX11_lade_26 : decode cX11_lade 26 = .ok (.iload_n 2, 1) := by decide +kernel
theorem dX11_lade_27 : decode cX11_lade 27 = .ok (.iload_n 3, 1) := by decide +kernel
theorem dX11_lade_28 : decode cX11_lade 28 = .ok (.invokevirtual 146, 3) := by decide +kernel
theorem dX11_lade_31 : decode cX11_lade 31 = .ok (.ireturn, 1) := by decide +kernel
set_option maxRecDepth 20000 in
theorem ggX11_unlade_X0_lies : GoodIn wsX11_unlade wsX0_lies := goodIn_r _ [8, 9, 10, 11, 12, 7, 13, 14, 15, 16, 17, 41, 42, 43, 44, 45, 46, 47, 48, 49, 50] (by decide +kernel) (by decide +kernel)
set_option maxRecDepth 20000 in
theorem gX11_unlade_X0_lies : GoodIn wsX11_unlade (wsV RX11 149 RX0 yX0_lies wsX0_lies) := goodIn_app (goodIn_of _ (by decide +kernel)) ggX11_unlade_X0_lies
set_option maxRecDepth 20000 in
theorem ggX11_unlade_X0_takeOff : GoodIn wsX11_unlade wsX0_takeOff := goodIn_r _ [21, 9, 22, 41, 42, 43, 44, 45, 46, 47, 48, 49, 50] (by decide +kernel) (by decide +kernel)
set_option maxRecDepth 20000 in
theorem gX11_unlade_X0_takeOff : GoodIn wsX11_unlade (wsV RX11 152 RX0 yX0_takeOff wsX0_takeOff) := goodIn_app (goodIn_of _ (by decide +kernel)) ggX11_unlade_X0_takeOff
theorem dX11_unlade_0 : decode cX11_unlade 0 = .ok (.aload_n 0, 1) := by decide +kernel
theorem dX11_unlade_1 : decode cX11_unlade 1 = .ok (.getfield 10, 3) := by decide +kernel
theorem dX11_unlade_4 : decode cX11_unlade 4 = .ok (.getfield 102, 3) := by decide +kernel
theorem dX11_unlade_7 : decode cX11_unlade 7 = .ok (.ifCond .ne 17, 3) := by decide +kernel
theorem dX11_unlade_10 : decode cX11_unlade 10 = .ok (.aload_n 0, 1) := by decide +kernel
theorem dX11_unlade_11 : decode cX11_unlade 11 = .ok (.getfield 10, 3) := by decide +kernel
theorem dX11_unlade_14 : decode cX11_unlade 14 = .ok (.getfield 131, 3) := by decide +kernel
theorem dX11_unlade_17 : decode cX11_unlade 17 = .ok (.iload_n 1, 1) := by decide +kernel
theorem dX11_unlade_18 : decode cX11_unlade 18 = .ok (.invokevirtual 149, 3) := by decide +kernel
theorem dX11_unlade_21 : decode cX11_unlade 21 = .ok (.ifCond .ne 5, 3) := by decide +kernel
theorem dX11_unlade_24 : decode cX11_unlade 24 = .ok (.iconst 0, 1) := by decide +kernel
theorem dX11_unlade_25 : decode cX11_unlade 25 = .ok (.ireturn, 1) := by decide +kernel
theorem dX11_unlade_26 : decode cX11_unlade 26 = .ok (.aload_n 0, 1) := by decide +kernel
theorem dX11_unlade_27 : decode cX11_unlade 27 = .ok (.getfield 10, 3) := by decide +kernel
theorem dX11_unlade_30 : decode cX11_unlade 30 = .ok (.getfield 131, 3) := by decide +kernel
theorem dX11_unlade_33 : decode cX11_unlade 33 = .ok (.iload_n 1, 1) := by decide +kernel
theorem dX11_unlade_34 : decode cX11_unlade 34 = .ok (.invokevirtual 152, 3) := by decide +kernel
theorem dX11_unlade_37 : decode cX11_unlade 37 = .ok (.iconst 1, 1) := by decide +kernel
theorem dX11_unlade_38 : decode cX11_unlade 38 = .ok (.ireturn, 1) := by decide +kernel
set_option maxRecDepth 20000 in
theorem ggX11_best_X0_waiting : GoodIn wsX11_best wsX0_waiting := goodIn_r _ [11, 12, 13, 14, 15, 10, 16, 17, 18, 19, 20, 21, 22, 23, 24, 167, 168, 169, 170, 171, 172, 173, 174, 175, 176] (by decide +kernel) (by decide +kernel)
set_option maxRecDepth 20000 in
theorem gX11_best_X0_waiting : GoodIn wsX11_best (wsV RX11 155 RX0 yX0_waiting wsX0_waiting) := goodIn_app (goodIn_of _ (by decide +kernel)) ggX11_best_X0_waiting
set_option maxRecDepth 20000 in
theorem ggX11_best_X1_start : GoodIn wsX11_best wsX1_start := goodIn_r _ [29, 30, 31, 32, 33, 34, 35, 36, 37, 38, 39, 40, 41, 42, 43, 44, 45, 46, 47, 48, 49, 50, 10, 51, 12, 17, 52, 53, 54, 55, 56, 57, 58, 59, 60, 28, 61, 62, 63, 64, 65, 66, 67, 68, 69, 70, 71, 72, 73, 74, 14, 15, 16, 18, 19, 20, 21, 22, 23, 24, 75, 76, 77, 78, 79, 80, 81, 82, 83, 84, 85, 86, 87, 88, 89, 90, 91, 92, 93, 94, 95, 96, 97, 98, 99, 100, 101, 102, 103, 104, 105, 106, 107, 108, 109, 110, 111, 112, 113, 114, 115, 116, 117, 118, 119, 120, 121, 122, 136, 137, 138, 139, 140, 141, 142, 143, 144, 145, 146, 147, 148, 149, 177, 178, 179, 180, 150, 151, 152, 153, 154, 155, 156, 157, 158, 159, 160, 161, 162, 163, 164, 165, 166, 181, 182, 183, 184, 185, 186, 187, 188, 189, 190, 167, 168, 169, 170, 171, 172, 173, 174, 175, 176] (by decide +kernel) (by decide +kernel)
set_option maxRecDepth 20000 in
theorem gX11_best_X1_start : GoodIn wsX11_best (wsV RX11 159 RX1 yX1_start wsX1_start) := goodIn_app (goodIn_of _ (by decide +kernel)) ggX11_best_X1_start
set_option maxRecDepth 20000 in
theorem ggX11_best_X0_keepPlan : GoodIn wsX11_best wsX0_keepPlan := goodIn_r _ [126, 127, 12, 128, 129, 130, 131, 167, 168, 169, 170, 171, 172, 173, 174, 175, 176, 150, 151, 152, 153, 154, 155, 156, 157, 158, 159, 160, 161, 162, 163, 164, 165, 166] (by decide +kernel) (by decide +kernel)
set_option maxRecDepth 20000 in
theorem gX11_best_X0_keepPlan : GoodIn wsX11_best (wsV RX11 166 RX0 yX0_keepPlan wsX0_keepPlan) := goodIn_app (goodIn_of _ (by decide +kernel)) ggX11_best_X0_keepPlan
theorem dX11_best_0 : decode cX11_best 0 = .ok (.aload_n 0, 1) := by decide +kernel
theorem dX11_best_1 : decode cX11_best 1 = .ok (.getfield 10, 3) := by decide +kernel
theorem dX11_best_4 : decode cX11_best 4 = .ok (.getfield 102, 3) := by decide +kernel
theorem dX11_best_7 : decode cX11_best 7 = .ok (.ifCond .ne 18, 3) := by decide +kernel
theorem dX11_best_10 : decode cX11_best 10 = .ok (.aload_n 0, 1) := by decide +kernel
theorem dX11_best_11 : decode cX11_best 11 = .ok (.getfield 10, 3) := by decide +kernel
theorem dX11_best_14 : decode cX11_best 14 = .ok (.getfield 131, 3) := by decide +kernel
theorem dX11_best_17 : decode cX11_best 17 = .ok (.invokevirtual 155, 3) := by decide +kernel
theorem dX11_best_20 : decode cX11_best 20 = .ok (.bipush 9, 2) := by decide +kernel
theorem dX11_best_22 : decode cX11_best 22 = .ok (.if_icmp .le 5, 3) := by decide +kernel
theorem dX11_best_25 : decode cX11_best 25 = .ok (.iconst (-1), 1) := by decide +kernel
theorem dX11_best_26 : decode cX11_best 26 = .ok (.ireturn, 1) := by decide +kernel
theorem dX11_best_27 : decode cX11_best 27 = .ok (.aload_n 0, 1) := by decide +kernel
theorem dX11_best_28 : decode cX11_best 28 = .ok (.getfield 30, 3) := by decide +kernel
theorem dX11_best_31 : decode cX11_best 31 = .ok (.aload_n 0, 1) := by decide +kernel
theorem dX11_best_32 : decode cX11_best 32 = .ok (.getfield 10, 3) := by decide +kernel
theorem dX11_best_35 : decode cX11_best 35 = .ok (.invokevirtual 159, 3) := by decide +kernel
theorem dX11_best_38 : decode cX11_best 38 = .ok (.aload_n 0, 1) := by decide +kernel
theorem dX11_best_39 : decode cX11_best 39 = .ok (.getfield 30, 3) := by decide +kernel
theorem dX11_best_42 : decode cX11_best 42 = .ok (.getfield 163, 3) := by decide +kernel
theorem dX11_best_45 : decode cX11_best 45 = .ok (.ifCond .ne 5, 3) := by decide +kernel
theorem dX11_best_48 : decode cX11_best 48 = .ok (.iconst (-1), 1) := by decide +kernel
theorem dX11_best_49 : decode cX11_best 49 = .ok (.ireturn, 1) := by decide +kernel
theorem dX11_best_50 : decode cX11_best 50 = .ok (.aload_n 0, 1) := by decide +kernel
theorem dX11_best_51 : decode cX11_best 51 = .ok (.getfield 10, 3) := by decide +kernel
theorem dX11_best_54 : decode cX11_best 54 = .ok (.getfield 131, 3) := by decide +kernel
theorem dX11_best_57 : decode cX11_best 57 = .ok (.aload_n 0, 1) := by decide +kernel
theorem dX11_best_58 : decode cX11_best 58 = .ok (.getfield 30, 3) := by decide +kernel
theorem dX11_best_61 : decode cX11_best 61 = .ok (.invokevirtual 166, 3) := by decide +kernel
theorem dX11_best_64 : decode cX11_best 64 = .ok (.aload_n 0, 1) := by decide +kernel
theorem dX11_best_65 : decode cX11_best 65 = .ok (.getfield 30, 3) := by decide +kernel
theorem dX11_best_68 : decode cX11_best 68 = .ok (.getfield 170, 3) := by decide +kernel
theorem dX11_best_71 : decode cX11_best 71 = .ok (.ireturn, 1) := by decide +kernel
set_option maxRecDepth 20000 in
theorem ggX11_bestSide_X0_has : GoodIn wsX11_bestSide wsX0_has := goodIn_r _ [9, 10, 11, 12, 13, 32, 33, 34, 35, 36, 37, 38, 39, 40, 41] (by decide +kernel) (by decide +kernel)
set_option maxRecDepth 20000 in
theorem gX11_bestSide_X0_has : GoodIn wsX11_bestSide (wsV RX11 176 RX0 yX0_has wsX0_has) := goodIn_app (goodIn_of _ (by decide +kernel)) ggX11_bestSide_X0_has
theorem dX11_bestSide_0 : decode cX11_bestSide 0 = .ok (.aload_n 0, 1) := by decide +kernel
theorem dX11_bestSide_1 : decode cX11_bestSide 1 = .ok (.getfield 10, 3) := by decide +kernel
theorem dX11_bestSide_4 : decode cX11_bestSide 4 = .ok (.getfield 131, 3) := by decide +kernel
theorem dX11_bestSide_7 : decode cX11_bestSide 7 = .ok (.getfield 173, 3) := by decide +kernel
theorem dX11_bestSide_10 : decode cX11_bestSide 10 = .ok (.ifCond .eq 17, 3) := by decide +kernel
theorem dX11_bestSide_13 : decode cX11_bestSide 13 = .ok (.aload_n 0, 1) := by decide +kernel
theorem dX11_bestSide_14 : decode cX11_bestSide 14 = .ok (.getfield 10, 3) := by decide +kernel
theorem dX11_bestSide_17 : decode cX11_bestSide 17 = .ok (.getfield 131, 3) := by decide +kernel
theorem dX11_bestSide_20 : decode cX11_bestSide 20 = .ok (.iload_n 1, 1) := by decide +kernel
theorem dX11_bestSide_21 : decode cX11_bestSide 21 = .ok (.invokevirtual 176, 3) := by decide +kernel
theorem dX11_bestSide_24 : decode cX11_bestSide 24 = .ok (.ifCond .ne 5, 3) := by decide +kernel
theorem dX11_bestSide_27 : decode cX11_bestSide 27 = .ok (.iconst (-1), 1) := by decide +kernel
theorem dX11_bestSide_28 : decode cX11_bestSide 28 = .ok (.ireturn, 1) := by decide +kernel
theorem dX11_bestSide_29 : decode cX11_bestSide 29 = .ok (.aload_n 0, 1) := by decide +kernel
theorem dX11_bestSide_30 : decode cX11_bestSide 30 = .ok (.getfield 10, 3) := by decide +kernel
theorem dX11_bestSide_33 : decode cX11_bestSide 33 = .ok (.getfield 131, 3) := by decide +kernel
theorem dX11_bestSide_36 : decode cX11_bestSide 36 = .ok (.getfield 177, 3) := by decide +kernel
theorem dX11_bestSide_39 : decode cX11_bestSide 39 = .ok (.iload_n 1, 1) := by decide +kernel
theorem dX11_bestSide_40 : decode cX11_bestSide 40 = .ok (.iaload, 1) := by decide +kernel
theorem dX11_bestSide_41 : decode cX11_bestSide 41 = .ok (.ireturn, 1) := by decide +kernel
set_option maxRecDepth 20000 in
theorem ggX11_ladeBest_X7_layBale : GoodIn wsX11_ladeBest wsX7_layBale := goodIn_r _ [12, 13, 14, 15, 16, 17, 18, 19, 20, 21, 22, 23, 24, 25, 26, 27, 28, 29, 30, 31, 32, 33, 34, 35, 36, 37, 38, 39, 40, 41, 42, 43, 44, 45, 11, 46, 47, 48, 49, 50, 51, 52, 57, 58, 59, 60, 61, 62, 63, 64, 65, 66, 67, 68, 69, 70, 71, 72, 73, 74, 75, 76, 77, 78, 79, 80, 81, 82, 83, 84, 85, 86, 87, 88, 89, 90] (by decide +kernel) (by decide +kernel)
set_option maxRecDepth 20000 in
theorem gX11_ladeBest_X7_layBale : GoodIn wsX11_ladeBest (wsV RX11 146 RX7 yX7_layBale wsX7_layBale) := goodIn_app (goodIn_of _ (by decide +kernel)) ggX11_ladeBest_X7_layBale
theorem dX11_ladeBest_0 : decode cX11_ladeBest 0 = .ok (.aload_n 0, 1) := by decide +kernel
theorem dX11_ladeBest_1 : decode cX11_ladeBest 1 = .ok (.getfield 10, 3) := by decide +kernel
theorem dX11_ladeBest_4 : decode cX11_ladeBest 4 = .ok (.getfield 102, 3) := by decide +kernel
theorem dX11_ladeBest_7 : decode cX11_ladeBest 7 = .ok (.ifCond .ne 16, 3) := by decide +kernel
theorem dX11_ladeBest_10 : decode cX11_ladeBest 10 = .ok (.aload_n 0, 1) := by decide +kernel
theorem dX11_ladeBest_11 : decode cX11_ladeBest 11 = .ok (.getfield 10, 3) := by decide +kernel
theorem dX11_ladeBest_14 : decode cX11_ladeBest 14 = .ok (.getfield 131, 3) := by decide +kernel
theorem dX11_ladeBest_17 : decode cX11_ladeBest 17 = .ok (.getfield 173, 3) := by decide +kernel
theorem dX11_ladeBest_20 : decode cX11_ladeBest 20 = .ok (.ifCond .ne 5, 3) := by decide +kernel
theorem dX11_ladeBest_23 : decode cX11_ladeBest 23 = .ok (.iconst (-1), 1) := by decide +kernel
theorem dX11_ladeBest_24 : decode cX11_ladeBest 24 = .ok (.ireturn, 1) := by decide +kernel
theorem dX11_ladeBest_25 : decode cX11_ladeBest 25 = .ok (.iconst 0, 1) := by decide +kernel
theorem dX11_ladeBest_26 : decode cX11_ladeBest 26 = .ok (.istore_n 1, 1) := by decide +kernel
theorem dX11_ladeBest_27 : decode cX11_ladeBest 27 = .ok (.iconst 0, 1) := by decide +kernel
theorem dX11_ladeBest_28 : decode cX11_ladeBest 28 = .ok (.istore_n 2, 1) := by decide +kernel
theorem dX11_ladeBest_29 : decode cX11_ladeBest 29 = .ok (.iload_n 2, 1) := by decide +kernel
theorem dX11_ladeBest_30 : decode cX11_ladeBest 30 = .ok (.aload_n 0, 1) := by decide +kernel
theorem dX11_ladeBest_31 : decode cX11_ladeBest 31 = .ok (.getfield 10, 3) := by decide +kernel
theorem dX11_ladeBest_34 : decode cX11_ladeBest 34 = .ok (.getfield 131, 3) := by decide +kernel
theorem dX11_ladeBest_37 : decode cX11_ladeBest 37 = .ok (.getfield 180, 3) := by decide +kernel
theorem dX11_ladeBest_40 : decode cX11_ladeBest 40 = .ok (.if_icmp .ge 54, 3) := by decide +kernel
theorem dX11_ladeBest_43 : decode cX11_ladeBest 43 = .ok (.aload_n 0, 1) := by decide +kernel
theorem dX11_ladeBest_44 : decode cX11_ladeBest 44 = .ok (.getfield 10, 3) := by decide +kernel
theorem dX11_ladeBest_47 : decode cX11_ladeBest 47 = .ok (.getfield 131, 3) := by decide +kernel
theorem dX11_ladeBest_50 : decode cX11_ladeBest 50 = .ok (.getfield 177, 3) := by decide +kernel
theorem dX11_ladeBest_53 : decode cX11_ladeBest 53 = .ok (.iload_n 2, 1) := by decide +kernel
theorem dX11_ladeBest_54 : decode cX11_ladeBest 54 = .ok (.iaload, 1) := by decide +kernel
theorem dX11_ladeBest_55 : decode cX11_ladeBest 55 = .ok (.istore_n 3, 1) := by decide +kernel
theorem dX11_ladeBest_56 : decode cX11_ladeBest 56 = .ok (.iload_n 3, 1) := by decide +kernel
theorem dX11_ladeBest_57 : decode cX11_ladeBest 57 = .ok (.iconst 2, 1) := by decide +kernel
theorem dX11_ladeBest_58 : decode cX11_ladeBest 58 = .ok (.if_icmp .eq 30, 3) := by decide +kernel
theorem dX11_ladeBest_61 : decode cX11_ladeBest 61 = .ok (.aload_n 0, 1) := by decide +kernel
theorem dX11_ladeBest_62 : decode cX11_ladeBest 62 = .ok (.getfield 10, 3) := by decide +kernel
theorem dX11_ladeBest_65 : decode cX11_ladeBest 65 = .ok (.iload_n 2, 1) := by decide +kernel
theorem dX11_ladeBest_66 : decode cX11_ladeBest 66 = .ok (.aload_n 0, 1) := by decide +kernel
theorem dX11_ladeBest_67 : decode cX11_ladeBest 67 = .ok (.getfield 10, 3) := by decide +kernel
theorem dX11_ladeBest_70 : decode cX11_ladeBest 70 = .ok (.getfield 131, 3) := by decide +kernel
theorem dX11_ladeBest_73 : decode cX11_ladeBest 73 = .ok (.getfield 183, 3) := by decide +kernel
theorem dX11_ladeBest_76 : decode cX11_ladeBest 76 = .ok (.iload_n 2, 1) := by decide +kernel
theorem dX11_ladeBest_77 : decode cX11_ladeBest 77 = .ok (.iaload, 1) := by decide +kernel
theorem dX11_ladeBest_78 : decode cX11_ladeBest 78 = .ok (.iload_n 3, 1) := by decide +kernel
theorem dX11_ladeBest_79 : decode cX11_ladeBest 79 = .ok (.invokevirtual 146, 3) := by decide +kernel
theorem dX11_ladeBest_82 : decode cX11_ladeBest 82 = .ok (.ifCond .eq 6, 3) := by decide +kernel
theorem dX11_ladeBest_85 : decode cX11_ladeBest 85 = .ok (.iinc 1 1, 3) := by decide +kernel
theorem dX11_ladeBest_88 : decode cX11_ladeBest 88 = .ok (.iinc 2 1, 3) := by decide +kernel
theorem dX11_ladeBest_91 : decode cX11_ladeBest 91 = .ok (.goto (-62), 3) := by decide +kernel
theorem dX11_ladeBest_94 : decode cX11_ladeBest 94 = .ok (.iload_n 1, 1) := by decide +kernel
theorem dX11_ladeBest_95 : decode cX11_ladeBest 95 = .ok (.ireturn, 1) := by decide +kernel
set_option maxRecDepth 20000 in
theorem ggX11_sail_X0_tilt : GoodIn wsX11_sail wsX0_tilt := goodIn_r _ [9, 10, 11, 12, 8, 13, 14, 15, 16, 50, 51, 52, 53, 54, 55, 56, 57, 58, 59] (by decide +kernel) (by decide +kernel)
set_option maxRecDepth 20000 in
theorem gX11_sail_X0_tilt : GoodIn wsX11_sail (wsV RX11 186 RX0 yX0_tilt wsX0_tilt) := goodIn_app (goodIn_of _ (by decide +kernel)) ggX11_sail_X0_tilt
set_option maxRecDepth 20000 in
theorem ggX11_sail_X0_ladenWeight : GoodIn wsX11_sail wsX0_ladenWeight := goodIn_r _ [20, 10, 11, 12, 8, 13, 14, 15, 16, 50, 51, 52, 53, 54, 55, 56, 57, 58, 59] (by decide +kernel) (by decide +kernel)
set_option maxRecDepth 20000 in
theorem gX11_sail_X0_ladenWeight : GoodIn wsX11_sail (wsV RX11 189 RX0 yX0_ladenWeight wsX0_ladenWeight) := goodIn_app (goodIn_of _ (by decide +kernel)) ggX11_sail_X0_ladenWeight
set_option maxRecDepth 20000 in
theorem ggX11_sail_X6_bears : GoodIn wsX11_sail wsX6_bears := goodIn_r _ [25, 26, 27, 28, 29, 30, 31, 60, 61, 62, 63] (by decide +kernel) (by decide +kernel)
set_option maxRecDepth 20000 in
theorem gX11_sail_X6_bears : GoodIn wsX11_sail (wsV RX11 192 RX6 yX6_bears wsX6_bears) := goodIn_app (goodIn_of _ (by decide +kernel)) ggX11_sail_X6_bears
theorem dX11_sail_0 : decode cX11_sail 0 = .ok (.aload_n 0, 1) := by decide +kernel
theorem dX11_sail_1 : decode cX11_sail 1 = .ok (.getfield 10, 3) := by decide +kernel
theorem dX11_sail_4 : decode cX11_sail 4 = .ok (.getfield 102, 3) := by decide +kernel
theorem dX11_sail_7 : decode cX11_sail 7 = .ok (.ifCond .ne 36, 3) := by decide +kernel
theorem dX11_sail_10 : decode cX11_sail 10 = .ok (.aload_n 0, 1) := by decide +kernel
theorem dX11_sail_11 : decode cX11_sail 11 = .ok (.getfield 10, 3) := by decide +kernel
theorem dX11_sail_14 : decode cX11_sail 14 = .ok (.getfield 92, 3) := by decide +kernel
theorem dX11_sail_17 : decode cX11_sail 17 = .ok (.aload_n 0, 1) := by decide +kernel
theorem dX11_sail_18 : decode cX11_sail 18 = .ok (.getfield 10, 3) := by decide +kernel
theorem dX11_sail_21 : decode cX11_sail 21 = .ok (.getfield 131, 3) := by decide +kernel
theorem dX11_sail_24 : decode cX11_sail 24 = .ok (.invokevirtual 186, 3) := by decide +kernel
theorem dX11_sail_27 : decode cX11_sail 27 = .ok (.aload_n 0, 1) := by decide +kernel
theorem dX11_sail_28 : decode cX11_sail 28 = .ok (.getfield 10, 3) := by decide +kernel
theorem dX11_sail_31 : decode cX11_sail 31 = .ok (.getfield 131, 3) := by decide +kernel
theorem dX11_sail_34 : decode cX11_sail 34 = .ok (.invokevirtual 189, 3) := by decide +kernel
theorem dX11_sail_37 : decode cX11_sail 37 = .ok (.invokevirtual 192, 3) := by decide +kernel
theorem dX11_sail_40 : decode cX11_sail 40 = .ok (.ifCond .ne 5, 3) := by decide +kernel
theorem dX11_sail_43 : decode cX11_sail 43 = .ok (.iconst 0, 1) := by decide +kernel
theorem dX11_sail_44 : decode cX11_sail 44 = .ok (.ireturn, 1) := by decide +kernel
theorem dX11_sail_45 : decode cX11_sail 45 = .ok (.aload_n 0, 1) := by decide +kernel
theorem dX11_sail_46 : decode cX11_sail 46 = .ok (.getfield 10, 3) := by decide +kernel
theorem dX11_sail_49 : decode cX11_sail 49 = .ok (.iconst 1, 1) := by decide +kernel
theorem dX11_sail_50 : decode cX11_sail 50 = .ok (.putfield 102, 3) := by decide +kernel
theorem dX11_sail_53 : decode cX11_sail 53 = .ok (.iconst 1, 1) := by decide +kernel
theorem dX11_sail_54 : decode cX11_sail 54 = .ok (.ireturn, 1) := by decide +kernel
set_option maxRecDepth 20000 in
theorem ggX11_board_X0_judged : GoodIn wsX11_board wsX0_judged := goodIn_r _ [9, 10, 11, 12, 13, 8, 14, 15, 16, 17, 18, 19, 20, 21, 22, 23, 24, 25, 26, 27, 28, 51, 52, 53, 54, 55, 56, 57, 58, 59, 60] (by decide +kernel) (by decide +kernel)
set_option maxRecDepth 20000 in
theorem gX11_board_X0_judged : GoodIn wsX11_board (wsV RX11 195 RX0 yX0_judged wsX0_judged) := goodIn_app (goodIn_of _ (by decide +kernel)) ggX11_board_X0_judged
theorem dX11_board_0 : decode cX11_board 0 = .ok (.iload_n 2, 1) := by decide +kernel
theorem dX11_board_1 : decode cX11_board 1 = .ok (.ifCond .lt 15, 3) := by decide +kernel
theorem dX11_board_4 : decode cX11_board 4 = .ok (.iload_n 2, 1) := by decide +kernel
theorem dX11_board_5 : decode cX11_board 5 = .ok (.iload_n 3, 1) := by decide +kernel
theorem dX11_board_6 : decode cX11_board 6 = .ok (.if_icmp .gt 10, 3) := by decide +kernel
theorem dX11_board_9 : decode cX11_board 9 = .ok (.iload_n 3, 1) := by decide +kernel
theorem dX11_board_10 : decode cX11_board 10 = .ok (.sipush 1000, 3) := by decide +kernel
theorem dX11_board_13 : decode cX11_board 13 = .ok (.if_icmp .le 5, 3) := by decide +kernel
theorem dX11_board_16 : decode cX11_board 16 = .ok (.iconst (-1), 1) := by decide +kernel
theorem dX11_board_17 : decode cX11_board 17 = .ok (.ireturn, 1) := by decide +kernel
theorem dX11_board_18 : decode cX11_board 18 = .ok (.iload 4, 2) := by decide +kernel
theorem dX11_board_20 : decode cX11_board 20 = .ok (.tableswitch 85 0 2 #[28, 41, 54], 28) := by decide +kernel
theorem dX11_board_48 : decode cX11_board 48 = .ok (.aload_n 0, 1) := by decide +kernel
theorem dX11_board_49 : decode cX11_board 49 = .ok (.getfield 10, 3) := by decide +kernel
theorem dX11_board_52 : decode cX11_board 52 = .ok (.getfield 131, 3) := by decide +kernel
theorem dX11_board_55 : decode cX11_board 55 = .ok (.iload_n 1, 1) := by decide +kernel
theorem dX11_board_56 : decode cX11_board 56 = .ok (.iload_n 2, 1) := by decide +kernel
theorem dX11_board_57 : decode cX11_board 57 = .ok (.invokevirtual 195, 3) := by decide +kernel
theorem dX11_board_60 : decode cX11_board 60 = .ok (.ireturn, 1) := by decide +kernel
theorem dX11_board_61 : decode cX11_board 61 = .ok (.aload_n 0, 1) := by decide +kernel
theorem dX11_board_62 : decode cX11_board 62 = .ok (.getfield 10, 3) := by decide +kernel
theorem dX11_board_65 : decode cX11_board 65 = .ok (.getfield 131, 3) := by decide +kernel
theorem dX11_board_68 : decode cX11_board 68 = .ok (.iload_n 1, 1) := by decide +kernel
theorem dX11_board_69 : decode cX11_board 69 = .ok (.iload_n 3, 1) := by decide +kernel
theorem dX11_board_70 : decode cX11_board 70 = .ok (.invokevirtual 195, 3) := by decide +kernel
theorem dX11_board_73 : decode cX11_board 73 = .ok (.ireturn, 1) := by decide +kernel
theorem dX11_board_74 : decode cX11_board 74 = .ok (.aload_n 0, 1) := by decide +kernel
theorem dX11_board_75 : decode cX11_board 75 = .ok (.getfield 10, 3) := by decide +kernel
theorem dX11_board_78 : decode cX11_board 78 = .ok (.getfield 131, 3) := by decide +kernel
theorem dX11_board_81 : decode cX11_board 81 = .ok (.iload_n 1, 1) := by decide +kernel
theorem dX11_board_82 : decode cX11_board 82 = .ok (.iload_n 2, 1) := by decide +kernel
theorem dX11_board_83 : decode cX11_board 83 = .ok (.invokevirtual 195, 3) := by decide +kernel
theorem dX11_board_86 : decode cX11_board 86 = .ok (.aload_n 0, 1) := by decide +kernel
theorem dX11_board_87 : decode cX11_board 87 = .ok (.getfield 10, 3) := by decide +kernel
theorem dX11_board_90 : decode cX11_board 90 = .ok (.getfield 92, 3) := by decide +kernel
theorem dX11_board_93 : decode cX11_board 93 = .ok (.getfield 199, 3) := by decide +kernel
theorem dX11_board_96 : decode cX11_board 96 = .ok (.if_icmp .le 7, 3) := by decide +kernel
theorem dX11_board_99 : decode cX11_board 99 = .ok (.iconst 1, 1) := by decide +kernel
theorem dX11_board_100 : decode cX11_board 100 = .ok (.goto 4, 3) := by decide +kernel
theorem dX11_board_103 : decode cX11_board 103 = .ok (.iconst 0, 1) := by decide +kernel
theorem dX11_board_104 : decode cX11_board 104 = .ok (.ireturn, 1) := by decide +kernel
theorem dX11_board_105 : decode cX11_board 105 = .ok (.iconst (-1), 1) := by decide +kernel
theorem dX11_board_106 : decode cX11_board 106 = .ok (.ireturn, 1) := by decide +kernel
set_option maxRecDepth 20000 in
theorem ggX11_loan_X2_areTwo : GoodIn wsX11_loan wsX2_areTwo := goodIn_r _ [9, 10, 11, 12, 8, 13, 14, 15, 16, 17, 52, 53, 54, 55, 56, 57, 58, 59, 60, 61] (by decide +kernel) (by decide +kernel)
set_option maxRecDepth 20000 in
theorem gX11_loan_X2_areTwo : GoodIn wsX11_loan (wsV RX11 113 RX2 yX2_areTwo wsX2_areTwo) := goodIn_app (goodIn_of _ (by decide +kernel)) ggX11_loan_X2_areTwo
set_option maxRecDepth 20000 in
theorem ggX11_loan_X11_within : GoodIn wsX11_loan wsX11_within := goodIn_r _ [17] (by decide +kernel) (by decide +kernel)
set_option maxRecDepth 20000 in
theorem gX11_loan_X11_within : GoodIn wsX11_loan (va_wsS RX11 78 yX11_within wsX11_within) := goodIn_app (goodIn_of _ (by decide +kernel)) ggX11_loan_X11_within
set_option maxRecDepth 20000 in
theorem ggX11_loan_X5_enter : GoodIn wsX11_loan wsX5_enter := goodIn_r _ [23, 24, 25, 26, 27, 28, 62, 63, 64, 65, 66] (by decide +kernel) (by decide +kernel)
set_option maxRecDepth 20000 in
theorem gX11_loan_X5_enter : GoodIn wsX11_loan (wsV RX11 206 RX5 yX5_enter wsX5_enter) := goodIn_app (goodIn_of _ (by decide +kernel)) ggX11_loan_X5_enter
set_option maxRecDepth 20000 in
theorem ggX11_loan_X2_pay : GoodIn wsX11_loan wsX2_pay := goodIn_r _ [32, 33, 52, 53, 54, 55, 56, 57, 58, 59, 60, 61] (by decide +kernel) (by decide +kernel)
set_option maxRecDepth 20000 in
theorem gX11_loan_X2_pay : GoodIn wsX11_loan (wsV RX11 124 RX2 yX2_pay wsX2_pay) := goodIn_app (goodIn_of _ (by decide +kernel)) ggX11_loan_X2_pay
theorem dX11_loan_0 : decode cX11_loan 0 = .ok (.aload_n 0, 1) := by decide +kernel
theorem dX11_loan_1 : decode cX11_loan 1 = .ok (.getfield 10, 3) := by decide +kernel
theorem dX11_loan_4 : decode cX11_loan 4 = .ok (.getfield 102, 3) := by decide +kernel
theorem dX11_loan_7 : decode cX11_loan 7 = .ok (.ifCond .ne 18, 3) := by decide +kernel
theorem dX11_loan_10 : decode cX11_loan 10 = .ok (.aload_n 0, 1) := by decide +kernel
theorem dX11_loan_11 : decode cX11_loan 11 = .ok (.getfield 10, 3) := by decide +kernel
theorem dX11_loan_14 : decode cX11_loan 14 = .ok (.getfield 82, 3) := by decide +kernel
theorem dX11_loan_17 : decode cX11_loan 17 = .ok (.iload_n 1, 1) := by decide +kernel
theorem dX11_loan_18 : decode cX11_loan 18 = .ok (.iload_n 2, 1) := by decide +kernel
theorem dX11_loan_19 : decode cX11_loan 19 = .ok (.invokevirtual 113, 3) := by decide +kernel
theorem dX11_loan_22 : decode cX11_loan 22 = .ok (.ifCond .ne 5, 3) := by decide +kernel
theorem dX11_loan_25 : decode cX11_loan 25 = .ok (.iconst (-1), 1) := by decide +kernel
theorem dX11_loan_26 : decode cX11_loan 26 = .ok (.ireturn, 1) := by decide +kernel
theorem dX11_loan_27 : decode cX11_loan 27 = .ok (.iload_n 3, 1) := by decide +kernel
theorem dX11_loan_28 : decode cX11_loan 28 = .ok (.iconst 1, 1) := by decide +kernel
theorem dX11_loan_29 : decode cX11_loan 29 = .ok (.sipush 10000, 3) := by decide +kernel
theorem dX11_loan_32 : decode cX11_loan 32 = .ok (.invokestatic 78, 3) := by decide +kernel
theorem dX11_loan_35 : decode cX11_loan 35 = .ok (.ifCond .eq 14, 3) := by decide +kernel
theorem dX11_loan_38 : decode cX11_loan 38 = .ok (.iload 4, 2) := by decide +kernel
theorem dX11_loan_40 : decode cX11_loan 40 = .ok (.iconst 0, 1) := by decide +kernel
theorem dX11_loan_41 : decode cX11_loan 41 = .ok (.bipush 100, 2) := by decide +kernel
theorem dX11_loan_43 : decode cX11_loan 43 = .ok (.invokestatic 78, 3) := by decide +kernel
theorem dX11_loan_46 : decode cX11_loan 46 = .ok (.ifCond .ne 5, 3) := by decide +kernel
theorem dX11_loan_49 : decode cX11_loan 49 = .ok (.iconst (-1), 1) := by decide +kernel
theorem dX11_loan_50 : decode cX11_loan 50 = .ok (.ireturn, 1) := by decide +kernel
theorem dX11_loan_51 : decode cX11_loan 51 = .ok (.aload_n 0, 1) := by decide +kernel
theorem dX11_loan_52 : decode cX11_loan 52 = .ok (.getfield 10, 3) := by decide +kernel
theorem dX11_loan_55 : decode cX11_loan 55 = .ok (.getfield 202, 3) := by decide +kernel
theorem dX11_loan_58 : decode cX11_loan 58 = .ok (.iload_n 1, 1) := by decide +kernel
theorem dX11_loan_59 : decode cX11_loan 59 = .ok (.iload_n 2, 1) := by decide +kernel
theorem dX11_loan_60 : decode cX11_loan 60 = .ok (.iload_n 3, 1) := by decide +kernel
theorem dX11_loan_61 : decode cX11_loan 61 = .ok (.iload 4, 2) := by decide +kernel
theorem dX11_loan_63 : decode cX11_loan 63 = .ok (.invokevirtual 206, 3) := by decide +kernel
theorem dX11_loan_66 : decode cX11_loan 66 = .ok (.istore 5, 2) := by decide +kernel
theorem dX11_loan_68 : decode cX11_loan 68 = .ok (.iload 5, 2) := by decide +kernel
theorem dX11_loan_70 : decode cX11_loan 70 = .ok (.iconst (-1), 1) := by decide +kernel
theorem dX11_loan_71 : decode cX11_loan 71 = .ok (.if_icmp .eq 16, 3) := by decide +kernel
theorem dX11_loan_74 : decode cX11_loan 74 = .ok (.aload_n 0, 1) := by decide +kernel
theorem dX11_loan_75 : decode cX11_loan 75 = .ok (.getfield 10, 3) := by decide +kernel
theorem dX11_loan_78 : decode cX11_loan 78 = .ok (.getfield 82, 3) := by decide +kernel
theorem dX11_loan_81 : decode cX11_loan 81 = .ok (.iload_n 1, 1) := by decide +kernel
theorem dX11_loan_82 : decode cX11_loan 82 = .ok (.iload_n 2, 1) := by decide +kernel
theorem dX11_loan_83 : decode cX11_loan 83 = .ok (.iload_n 3, 1) := by decide +kernel
theorem dX11_loan_84 : decode cX11_loan 84 = .ok (.invokevirtual 124, 3) := by decide +kernel
theorem dX11_loan_87 : decode cX11_loan 87 = .ok (.iload 5, 2) := by decide +kernel
theorem dX11_loan_89 : decode cX11_loan 89 = .ok (.ireturn, 1) := by decide +kernel
set_option maxRecDepth 20000 in
theorem ggX11_ends_X7_closeYear : GoodIn wsX11_ends wsX7_closeYear := goodIn_r _ [8, 9, 10, 11, 12, 13, 14, 15, 16, 17, 18, 19, 20, 21, 22, 23, 24, 25, 26, 27, 28, 29, 30, 31, 32, 33, 34, 35, 36, 37, 38, 39, 40, 41, 42, 43, 44, 45, 46, 47, 48, 49, 50, 51, 52, 53, 54, 55, 56, 57, 58, 59, 60, 61, 62, 63, 64, 65, 66, 67, 68, 69, 70, 71, 72, 73, 74, 75, 76, 77, 7, 78, 79, 80, 81, 82, 83, 84, 85, 86, 87, 88, 89, 90, 91, 92, 93, 94, 95, 96, 97, 98, 99, 100, 101, 102, 103, 104, 105, 106, 107, 108, 109, 110, 111, 112, 113, 114, 115, 116, 117, 118, 119, 120, 121, 122, 123, 124, 125, 126, 127, 128, 129, 130, 131, 132, 133, 134, 135, 136, 137, 138, 139, 140, 141, 146, 147, 148, 149, 150, 151, 152, 153, 154, 155, 156, 157, 158, 159, 160, 161, 162, 163, 164, 165, 166, 167, 168, 169, 170, 171, 172, 173, 174, 175, 176, 177, 178, 179, 180, 181, 182, 183, 184, 185, 186, 187, 188, 189] (by decide +kernel) (by decide +kernel)
set_option maxRecDepth 20000 in
theorem gX11_ends_X7_closeYear : GoodIn wsX11_ends (wsV RX11 212 RX7 yX7_closeYear wsX7_closeYear) := goodIn_app (goodIn_of _ (by decide +kernel)) ggX11_ends_X7_closeYear
theorem dX11_ends_0 : decode cX11_ends 0 = .ok (.aload_n 0, 1) := by decide +kernel
theorem dX11_ends_1 : decode cX11_ends 1 = .ok (.getfield 10, 3) := by decide +kernel
theorem dX11_ends_4 : decode cX11_ends 4 = .ok (.getfield 102, 3) := by decide +kernel
theorem dX11_ends_7 : decode cX11_ends 7 = .ok (.ifCond .eq 16, 3) := by decide +kernel
theorem dX11_ends_10 : decode cX11_ends 10 = .ok (.aload_n 0, 1) := by decide +kernel
theorem dX11_ends_11 : decode cX11_ends 11 = .ok (.getfield 10, 3) := by decide +kernel
theorem dX11_ends_14 : decode cX11_ends 14 = .ok (.getfield 209, 3) := by decide +kernel
theorem dX11_ends_17 : decode cX11_ends 17 = .ok (.sipush 199, 3) := by decide +kernel
theorem dX11_ends_20 : decode cX11_ends 20 = .ok (.if_icmp .lt 5, 3) := by decide +kernel
theorem dX11_ends_23 : decode cX11_ends 23 = .ok (.iconst (-1), 1) := by decide +kernel
theorem dX11_ends_24 : decode cX11_ends 24 = .ok (.ireturn, 1) := by decide +kernel
theorem dX11_ends_25 : decode cX11_ends 25 = .ok (.aload_n 0, 1) := by decide +kernel
theorem dX11_ends_26 : decode cX11_ends 26 = .ok (.getfield 10, 3) := by decide +kernel
theorem dX11_ends_29 : decode cX11_ends 29 = .ok (.iload_n 1, 1) := by decide +kernel
theorem dX11_ends_30 : decode cX11_ends 30 = .ok (.invokevirtual 212, 3) := by decide +kernel
theorem dX11_ends_33 : decode cX11_ends 33 = .ok (.aload_n 0, 1) := by decide +kernel
theorem dX11_ends_34 : decode cX11_ends 34 = .ok (.getfield 10, 3) := by decide +kernel
theorem dX11_ends_37 : decode cX11_ends 37 = .ok (.getfield 209, 3) := by decide +kernel
theorem dX11_ends_40 : decode cX11_ends 40 = .ok (.ireturn, 1) := by decide +kernel
set_option maxRecDepth 20000 in
theorem ggX11_tell_X2_has : GoodIn wsX11_tell wsX2_has := goodIn_r _ [14, 15, 16, 17, 18, 91, 92, 93, 94, 95, 96, 97, 98, 99, 100] (by decide +kernel) (by decide +kernel)
set_option maxRecDepth 20000 in
theorem gX11_tell_X2_has : GoodIn wsX11_tell (wsV RX11 128 RX2 yX2_has wsX2_has) := goodIn_app (goodIn_of _ (by decide +kernel)) ggX11_tell_X2_has
set_option maxRecDepth 20000 in
theorem ggX11_tell_X7_shareOf : GoodIn wsX11_tell wsX7_shareOf := goodIn_r _ [23, 24, 25, 26, 27, 28, 29, 30, 31, 32, 33, 34, 35, 36, 37, 38, 39, 40, 41, 42, 43, 44, 45, 46, 47, 48, 49, 50, 51, 52, 53, 77, 78, 79, 80, 81, 82, 83, 84, 85, 86, 87, 88, 89, 90, 101, 102, 103, 104, 105, 106, 107, 108, 91, 92, 93, 94, 95, 96, 97, 98, 99, 100] (by decide +kernel) (by decide +kernel)
set_option maxRecDepth 20000 in
theorem gX11_tell_X7_shareOf : GoodIn wsX11_tell (wsV RX11 223 RX7 yX7_shareOf wsX7_shareOf) := goodIn_app (goodIn_of _ (by decide +kernel)) ggX11_tell_X7_shareOf
set_option maxRecDepth 20000 in
theorem ggX11_tell_X7_freeSlips : GoodIn wsX11_tell wsX7_freeSlips := goodIn_r _ [57, 25, 58, 59, 60, 61, 62, 63, 64, 65, 66, 67, 68, 69, 70, 71, 72, 77, 78, 79, 80, 81, 82, 83, 84, 85, 86, 87, 88, 89, 90, 91, 92, 93, 94, 95, 96, 97, 98, 99, 100, 109, 110, 111, 112, 113, 114, 115, 116, 117, 118] (by decide +kernel) (by decide +kernel)
set_option maxRecDepth 20000 in
theorem gX11_tell_X7_freeSlips : GoodIn wsX11_tell (wsV RX11 116 RX7 yX7_freeSlips wsX7_freeSlips) := goodIn_app (goodIn_of _ (by decide +kernel)) ggX11_tell_X7_freeSlips
theorem dX11_tell_0 : decode cX11_tell 0 = .ok (.aload_n 0, 1) := by decide +kernel
theorem dX11_tell_1 : decode cX11_tell 1 = .ok (.getfield 10, 3) := by decide +kernel
theorem dX11_tell_4 : decode cX11_tell 4 = .ok (.getfield 82, 3) := by decide +kernel
theorem dX11_tell_7 : decode cX11_tell 7 = .ok (.astore_n 3, 1) := by decide +kernel
theorem dX11_tell_8 : decode cX11_tell 8 = .ok (.aload_n 3, 1) := by decide +kernel
theorem dX11_tell_9 : decode cX11_tell 9 = .ok (.iload_n 1, 1) := by decide +kernel
theorem dX11_tell_10 : decode cX11_tell 10 = .ok (.invokevirtual 128, 3) := by decide +kernel
theorem dX11_tell_13 : decode cX11_tell 13 = .ok (.ifCond .ne 6, 3) := by decide +kernel
theorem dX11_tell_16 : decode cX11_tell 16 = .ok (.ldc 216, 2) := by decide +kernel
theorem dX11_tell_18 : decode cX11_tell 18 = .ok (.ireturn, 1) := by decide +kernel
theorem dX11_tell_19 : decode cX11_tell 19 = .ok (.iload_n 2, 1) := by decide +kernel
theorem dX11_tell_20 : decode cX11_tell 20 = .ok (.tableswitch 108 0 7 #[48, 55, 62, 71, 78, 87, 94, 101], 48) := by decide +kernel
theorem dX11_tell_68 : decode cX11_tell 68 = .ok (.aload_n 3, 1) := by decide +kernel
theorem dX11_tell_69 : decode cX11_tell 69 = .ok (.getfield 217, 3) := by decide +kernel
theorem dX11_tell_72 : decode cX11_tell 72 = .ok (.iload_n 1, 1) := by decide +kernel
theorem dX11_tell_73 : decode cX11_tell 73 = .ok (.iaload, 1) := by decide +kernel
theorem dX11_tell_74 : decode cX11_tell 74 = .ok (.ireturn, 1) := by decide +kernel
theorem dX11_tell_75 : decode cX11_tell 75 = .ok (.aload_n 3, 1) := by decide +kernel
theorem dX11_tell_76 : decode cX11_tell 76 = .ok (.getfield 220, 3) := by decide +kernel
theorem dX11_tell_79 : decode cX11_tell 79 = .ok (.iload_n 1, 1) := by decide +kernel
theorem dX11_tell_80 : decode cX11_tell 80 = .ok (.iaload, 1) := by decide +kernel
theorem dX11_tell_81 : decode cX11_tell 81 = .ok (.ireturn, 1) := by decide +kernel
theorem dX11_tell_82 : decode cX11_tell 82 = .ok (.aload_n 0, 1) := by decide +kernel
theorem dX11_tell_83 : decode cX11_tell 83 = .ok (.getfield 10, 3) := by decide +kernel
theorem dX11_tell_86 : decode cX11_tell 86 = .ok (.iload_n 1, 1) := by decide +kernel
theorem dX11_tell_87 : decode cX11_tell 87 = .ok (.invokevirtual 223, 3) := by decide +kernel
theorem dX11_tell_90 : decode cX11_tell 90 = .ok (.ireturn, 1) := by decide +kernel
theorem dX11_tell_91 : decode cX11_tell 91 = .ok (.aload_n 3, 1) := by decide +kernel
theorem dX11_tell_92 : decode cX11_tell 92 = .ok (.getfield 120, 3) := by decide +kernel
theorem dX11_tell_95 : decode cX11_tell 95 = .ok (.iload_n 1, 1) := by decide +kernel
theorem dX11_tell_96 : decode cX11_tell 96 = .ok (.iaload, 1) := by decide +kernel
theorem dX11_tell_97 : decode cX11_tell 97 = .ok (.ireturn, 1) := by decide +kernel
theorem dX11_tell_98 : decode cX11_tell 98 = .ok (.aload_n 0, 1) := by decide +kernel
theorem dX11_tell_99 : decode cX11_tell 99 = .ok (.getfield 10, 3) := by decide +kernel
theorem dX11_tell_102 : decode cX11_tell 102 = .ok (.iload_n 1, 1) := by decide +kernel
theorem dX11_tell_103 : decode cX11_tell 103 = .ok (.invokevirtual 116, 3) := by decide +kernel
theorem dX11_tell_106 : decode cX11_tell 106 = .ok (.ireturn, 1) := by decide +kernel
theorem dX11_tell_107 : decode cX11_tell 107 = .ok (.aload_n 3, 1) := by decide +kernel
theorem dX11_tell_108 : decode cX11_tell 108 = .ok (.getfield 226, 3) := by decide +kernel
theorem dX11_tell_111 : decode cX11_tell 111 = .ok (.iload_n 1, 1) := by decide +kernel
theorem dX11_tell_112 : decode cX11_tell 112 = .ok (.iaload, 1) := by decide +kernel
theorem dX11_tell_113 : decode cX11_tell 113 = .ok (.ireturn, 1) := by decide +kernel
theorem dX11_tell_114 : decode cX11_tell 114 = .ok (.aload_n 3, 1) := by decide +kernel
theorem dX11_tell_115 : decode cX11_tell 115 = .ok (.getfield 229, 3) := by decide +kernel
theorem dX11_tell_118 : decode cX11_tell 118 = .ok (.iload_n 1, 1) := by decide +kernel
theorem dX11_tell_119 : decode cX11_tell 119 = .ok (.iaload, 1) := by decide +kernel
theorem dX11_tell_120 : decode cX11_tell 120 = .ok (.ireturn, 1) := by decide +kernel
theorem dX11_tell_121 : decode cX11_tell 121 = .ok (.aload_n 3, 1) := by decide +kernel
theorem dX11_tell_122 : decode cX11_tell 122 = .ok (.getfield 232, 3) := by decide +kernel
theorem dX11_tell_125 : decode cX11_tell 125 = .ok (.iload_n 1, 1) := by decide +kernel
theorem dX11_tell_126 : decode cX11_tell 126 = .ok (.iaload, 1) := by decide +kernel
theorem dX11_tell_127 : decode cX11_tell 127 = .ok (.ireturn, 1) := by decide +kernel
theorem dX11_tell_128 : decode cX11_tell 128 = .ok (.ldc 216, 2) := by decide +kernel
theorem dX11_tell_130 : decode cX11_tell 130 = .ok (.ireturn, 1) := by decide +kernel
set_option maxRecDepth 20000 in
theorem ggX11_about_X0_has : GoodIn wsX11_about wsX0_has := goodIn_r _ [14, 15, 16, 17, 18, 48, 49, 50, 51, 52, 53, 54, 55, 56, 57] (by decide +kernel) (by decide +kernel)
set_option maxRecDepth 20000 in
theorem gX11_about_X0_has : GoodIn wsX11_about (wsV RX11 176 RX0 yX0_has wsX0_has) := goodIn_app (goodIn_of _ (by decide +kernel)) ggX11_about_X0_has
set_option maxRecDepth 20000 in
theorem ggX11_about_X0_room : GoodIn wsX11_about wsX0_room := goodIn_r _ [22, 23, 24, 48, 49, 50, 51, 52, 53, 54, 55, 56, 57] (by decide +kernel) (by decide +kernel)
set_option maxRecDepth 20000 in
theorem gX11_about_X0_room : GoodIn wsX11_about (wsV RX11 244 RX0 yX0_room wsX0_room) := goodIn_app (goodIn_of _ (by decide +kernel)) ggX11_about_X0_room
set_option maxRecDepth 20000 in
theorem ggX11_about_X0_value : GoodIn wsX11_about wsX0_value := goodIn_r _ [28, 29, 24, 48, 49, 50, 51, 52, 53, 54, 55, 56, 57] (by decide +kernel) (by decide +kernel)
set_option maxRecDepth 20000 in
theorem gX11_about_X0_value : GoodIn wsX11_about (wsV RX11 247 RX0 yX0_value wsX0_value) := goodIn_app (goodIn_of _ (by decide +kernel)) ggX11_about_X0_value
theorem dX11_about_0 : decode cX11_about 0 = .ok (.aload_n 0, 1) := by decide +kernel
theorem dX11_about_1 : decode cX11_about 1 = .ok (.getfield 10, 3) := by decide +kernel
theorem dX11_about_4 : decode cX11_about 4 = .ok (.getfield 131, 3) := by decide +kernel
theorem dX11_about_7 : decode cX11_about 7 = .ok (.astore_n 3, 1) := by decide +kernel
theorem dX11_about_8 : decode cX11_about 8 = .ok (.aload_n 3, 1) := by decide +kernel
theorem dX11_about_9 : decode cX11_about 9 = .ok (.iload_n 1, 1) := by decide +kernel
theorem dX11_about_10 : decode cX11_about 10 = .ok (.invokevirtual 176, 3) := by decide +kernel
theorem dX11_about_13 : decode cX11_about 13 = .ok (.ifCond .ne 5, 3) := by decide +kernel
theorem dX11_about_16 : decode cX11_about 16 = .ok (.iconst (-1), 1) := by decide +kernel
theorem dX11_about_17 : decode cX11_about 17 = .ok (.ireturn, 1) := by decide +kernel
theorem dX11_about_18 : decode cX11_about 18 = .ok (.iload_n 2, 1) := by decide +kernel
theorem dX11_about_19 : decode cX11_about 19 = .ok (.tableswitch 110 0 8 #[49, 56, 63, 70, 77, 84, 90, 96, 103], 49) := by decide +kernel
theorem dX11_about_68 : decode cX11_about 68 = .ok (.aload_n 3, 1) := by decide +kernel
theorem dX11_about_69 : decode cX11_about 69 = .ok (.getfield 183, 3) := by decide +kernel
theorem dX11_about_72 : decode cX11_about 72 = .ok (.iload_n 1, 1) := by decide +kernel
theorem dX11_about_73 : decode cX11_about 73 = .ok (.iaload, 1) := by decide +kernel
theorem dX11_about_74 : decode cX11_about 74 = .ok (.ireturn, 1) := by decide +kernel
theorem dX11_about_75 : decode cX11_about 75 = .ok (.aload_n 3, 1) := by decide +kernel
theorem dX11_about_76 : decode cX11_about 76 = .ok (.getfield 235, 3) := by decide +kernel
theorem dX11_about_79 : decode cX11_about 79 = .ok (.iload_n 1, 1) := by decide +kernel
theorem dX11_about_80 : decode cX11_about 80 = .ok (.iaload, 1) := by decide +kernel
theorem dX11_about_81 : decode cX11_about 81 = .ok (.ireturn, 1) := by decide +kernel
theorem dX11_about_82 : decode cX11_about 82 = .ok (.aload_n 3, 1) := by decide +kernel
theorem dX11_about_83 : decode cX11_about 83 = .ok (.getfield 238, 3) := by decide +kernel
theorem dX11_about_86 : decode cX11_about 86 = .ok (.iload_n 1, 1) := by decide +kernel
theorem dX11_about_87 : decode cX11_about 87 = .ok (.iaload, 1) := by decide +kernel
theorem dX11_about_88 : decode cX11_about 88 = .ok (.ireturn, 1) := by decide +kernel
theorem dX11_about_89 : decode cX11_about 89 = .ok (.aload_n 3, 1) := by decide +kernel
theorem dX11_about_90 : decode cX11_about 90 = .ok (.getfield 241, 3) := by decide +kernel
theorem dX11_about_93 : decode cX11_about 93 = .ok (.iload_n 1, 1) := by decide +kernel
theorem dX11_about_94 : decode cX11_about 94 = .ok (.iaload, 1) := by decide +kernel
theorem dX11_about_95 : decode cX11_about 95 = .ok (.ireturn, 1) := by decide +kernel
theorem dX11_about_96 : decode cX11_about 96 = .ok (.aload_n 3, 1) := by decide +kernel
theorem dX11_about_97 : decode cX11_about 97 = .ok (.getfield 143, 3) := by decide +kernel
theorem dX11_about_100 : decode cX11_about 100 = .ok (.iload_n 1, 1) := by decide +kernel
theorem dX11_about_101 : decode cX11_about 101 = .ok (.iaload, 1) := by decide +kernel
theorem dX11_about_102 : decode cX11_about 102 = .ok (.ireturn, 1) := by decide +kernel
theorem dX11_about_103 : decode cX11_about 103 = .ok (.aload_n 3, 1) := by decide +kernel
theorem dX11_about_104 : decode cX11_about 104 = .ok (.iload_n 1, 1) := by decide +kernel
theorem dX11_about_105 : decode cX11_about 105 = .ok (.invokevirtual 244, 3) := by decide +kernel
theorem dX11_about_108 : decode cX11_about 108 = .ok (.ireturn, 1) := by decide +kernel
theorem dX11_about_109 : decode cX11_about 109 = .ok (.aload_n 3, 1) := by decide +kernel
theorem dX11_about_110 : decode cX11_about 110 = .ok (.iload_n 1, 1) := by decide +kernel
theorem dX11_about_111 : decode cX11_about 111 = .ok (.invokevirtual 247, 3) := by decide +kernel
theorem dX11_about_114 : decode cX11_about 114 = .ok (.ireturn, 1) := by decide +kernel
theorem dX11_about_115 : decode cX11_about 115 = .ok (.aload_n 3, 1) := by decide +kernel
theorem dX11_about_116 : decode cX11_about 116 = .ok (.getfield 250, 3) := by decide +kernel
theorem dX11_about_119 : decode cX11_about 119 = .ok (.iload_n 1, 1) := by decide +kernel
theorem dX11_about_120 : decode cX11_about 120 = .ok (.iaload, 1) := by decide +kernel
theorem dX11_about_121 : decode cX11_about 121 = .ok (.ireturn, 1) := by decide +kernel
theorem dX11_about_122 : decode cX11_about 122 = .ok (.aload_n 3, 1) := by decide +kernel
theorem dX11_about_123 : decode cX11_about 123 = .ok (.getfield 253, 3) := by decide +kernel
theorem dX11_about_126 : decode cX11_about 126 = .ok (.iload_n 1, 1) := by decide +kernel
theorem dX11_about_127 : decode cX11_about 127 = .ok (.iaload, 1) := by decide +kernel
theorem dX11_about_128 : decode cX11_about 128 = .ok (.ireturn, 1) := by decide +kernel
theorem dX11_about_129 : decode cX11_about 129 = .ok (.iconst (-1), 1) := by decide +kernel
theorem dX11_about_130 : decode cX11_about 130 = .ok (.ireturn, 1) := by decide +kernel
set_option maxRecDepth 20000 in
theorem ggX11_book_X11_within : GoodIn wsX11_book wsX11_within := goodIn_r _ [7] (by decide +kernel) (by decide +kernel)
set_option maxRecDepth 20000 in
theorem gX11_book_X11_within : GoodIn wsX11_book (va_wsS RX11 78 yX11_within wsX11_within) := goodIn_app (goodIn_of _ (by decide +kernel)) ggX11_book_X11_within
set_option maxRecDepth 20000 in
theorem ggX11_book_X10_entry : GoodIn wsX11_book wsX10_entry := goodIn_r _ [12, 13, 14, 15, 11, 16, 5, 6, 7, 35] (by decide +kernel) (by decide +kernel)
set_option maxRecDepth 20000 in
theorem gX11_book_X10_entry : GoodIn wsX11_book (wsV RX11 262 RX10 yX10_entry wsX10_entry) := goodIn_app (goodIn_of _ (by decide +kernel)) ggX11_book_X10_entry
theorem dX11_book_0 : decode cX11_book 0 = .ok (.iload_n 1, 1) := by decide +kernel
theorem dX11_book_1 : decode cX11_book 1 = .ok (.iconst 0, 1) := by decide +kernel
theorem dX11_book_2 : decode cX11_book 2 = .ok (.aload_n 0, 1) := by decide +kernel
theorem dX11_book_3 : decode cX11_book 3 = .ok (.getfield 10, 3) := by decide +kernel
theorem dX11_book_6 : decode cX11_book 6 = .ok (.getfield 209, 3) := by decide +kernel
theorem dX11_book_9 : decode cX11_book 9 = .ok (.iconst 1, 1) := by decide +kernel
theorem dX11_book_10 : decode cX11_book 10 = .ok (.isub, 1) := by decide +kernel
theorem dX11_book_11 : decode cX11_book 11 = .ok (.invokestatic 78, 3) := by decide +kernel
theorem dX11_book_14 : decode cX11_book 14 = .ok (.ifCond .eq 13, 3) := by decide +kernel
theorem dX11_book_17 : decode cX11_book 17 = .ok (.iload_n 2, 1) := by decide +kernel
theorem dX11_book_18 : decode cX11_book 18 = .ok (.iconst 0, 1) := by decide +kernel
theorem dX11_book_19 : decode cX11_book 19 = .ok (.bipush 8, 2) := by decide +kernel
theorem dX11_book_21 : decode cX11_book 21 = .ok (.invokestatic 78, 3) := by decide +kernel
theorem dX11_book_24 : decode cX11_book 24 = .ok (.ifCond .ne 5, 3) := by decide +kernel
theorem dX11_book_27 : decode cX11_book 27 = .ok (.iconst (-1), 1) := by decide +kernel
theorem dX11_book_28 : decode cX11_book 28 = .ok (.ireturn, 1) := by decide +kernel
theorem dX11_book_29 : decode cX11_book 29 = .ok (.aload_n 0, 1) := by decide +kernel
theorem dX11_book_30 : decode cX11_book 30 = .ok (.getfield 10, 3) := by decide +kernel
theorem dX11_book_33 : decode cX11_book 33 = .ok (.getfield 258, 3) := by decide +kernel
theorem dX11_book_36 : decode cX11_book 36 = .ok (.iload_n 1, 1) := by decide +kernel
theorem dX11_book_37 : decode cX11_book 37 = .ok (.iload_n 2, 1) := by decide +kernel
theorem dX11_book_38 : decode cX11_book 38 = .ok (.invokevirtual 262, 3) := by decide +kernel
theorem dX11_book_41 : decode cX11_book 41 = .ok (.ireturn, 1) := by decide +kernel
set_option maxRecDepth 20000 in
theorem ggX11_count_X0_waiting : GoodIn wsX11_count wsX0_waiting := goodIn_r _ [18, 19, 20, 21, 22, 17, 23, 24, 25, 26, 27, 28, 29, 30, 31, 74, 75, 76, 77, 78, 79, 80, 81, 82, 83] (by decide +kernel) (by decide +kernel)
set_option maxRecDepth 20000 in
theorem gX11_count_X0_waiting : GoodIn wsX11_count (wsV RX11 155 RX0 yX0_waiting wsX0_waiting) := goodIn_app (goodIn_of _ (by decide +kernel)) ggX11_count_X0_waiting
set_option maxRecDepth 20000 in
theorem ggX11_count_X0_tilt : GoodIn wsX11_count wsX0_tilt := goodIn_r _ [35, 36, 37, 38, 17, 39, 19, 40, 41, 74, 75, 76, 77, 78, 79, 80, 81, 82, 83] (by decide +kernel) (by decide +kernel)
set_option maxRecDepth 20000 in
theorem gX11_count_X0_tilt : GoodIn wsX11_count (wsV RX11 186 RX0 yX0_tilt wsX0_tilt) := goodIn_app (goodIn_of _ (by decide +kernel)) ggX11_count_X0_tilt
set_option maxRecDepth 20000 in
theorem ggX11_count_X0_ladenWeight : GoodIn wsX11_count wsX0_ladenWeight := goodIn_r _ [45, 36, 37, 38, 17, 39, 19, 40, 41, 74, 75, 76, 77, 78, 79, 80, 81, 82, 83] (by decide +kernel) (by decide +kernel)
set_option maxRecDepth 20000 in
theorem gX11_count_X0_ladenWeight : GoodIn wsX11_count (wsV RX11 189 RX0 yX0_ladenWeight wsX0_ladenWeight) := goodIn_app (goodIn_of _ (by decide +kernel)) ggX11_count_X0_ladenWeight
theorem dX11_count_0 : decode cX11_count 0 = .ok (.iload_n 1, 1) := by decide +kernel
theorem dX11_count_1 : decode cX11_count 1 = .ok (.tableswitch 175 0 9 #[55, 66, 77, 99, 110, 118, 134, 145, 156, 167], 55) := by decide +kernel
theorem dX11_count_56 : decode cX11_count 56 = .ok (.aload_n 0, 1) := by decide +kernel
theorem dX11_count_57 : decode cX11_count 57 = .ok (.getfield 10, 3) := by decide +kernel
theorem dX11_count_60 : decode cX11_count 60 = .ok (.getfield 82, 3) := by decide +kernel
theorem dX11_count_63 : decode cX11_count 63 = .ok (.getfield 265, 3) := by decide +kernel
theorem dX11_count_66 : decode cX11_count 66 = .ok (.ireturn, 1) := by decide +kernel
theorem dX11_count_67 : decode cX11_count 67 = .ok (.aload_n 0, 1) := by decide +kernel
theorem dX11_count_68 : decode cX11_count 68 = .ok (.getfield 10, 3) := by decide +kernel
theorem dX11_count_71 : decode cX11_count 71 = .ok (.getfield 131, 3) := by decide +kernel
theorem dX11_count_74 : decode cX11_count 74 = .ok (.getfield 180, 3) := by decide +kernel
theorem dX11_count_77 : decode cX11_count 77 = .ok (.ireturn, 1) := by decide +kernel
theorem dX11_count_78 : decode cX11_count 78 = .ok (.aload_n 0, 1) := by decide +kernel
theorem dX11_count_79 : decode cX11_count 79 = .ok (.getfield 10, 3) := by decide +kernel
theorem dX11_count_82 : decode cX11_count 82 = .ok (.getfield 131, 3) := by decide +kernel
theorem dX11_count_85 : decode cX11_count 85 = .ok (.getfield 180, 3) := by decide +kernel
theorem dX11_count_88 : decode cX11_count 88 = .ok (.aload_n 0, 1) := by decide +kernel
theorem dX11_count_89 : decode cX11_count 89 = .ok (.getfield 10, 3) := by decide +kernel
theorem dX11_count_92 : decode cX11_count 92 = .ok (.getfield 131, 3) := by decide +kernel
theorem dX11_count_95 : decode cX11_count 95 = .ok (.invokevirtual 155, 3) := by decide +kernel
theorem dX11_count_98 : decode cX11_count 98 = .ok (.isub, 1) := by decide +kernel
theorem dX11_count_99 : decode cX11_count 99 = .ok (.ireturn, 1) := by decide +kernel
theorem dX11_count_100 : decode cX11_count 100 = .ok (.aload_n 0, 1) := by decide +kernel
theorem dX11_count_101 : decode cX11_count 101 = .ok (.getfield 10, 3) := by decide +kernel
theorem dX11_count_104 : decode cX11_count 104 = .ok (.getfield 202, 3) := by decide +kernel
theorem dX11_count_107 : decode cX11_count 107 = .ok (.getfield 266, 3) := by decide +kernel
theorem dX11_count_110 : decode cX11_count 110 = .ok (.ireturn, 1) := by decide +kernel
theorem dX11_count_111 : decode cX11_count 111 = .ok (.aload_n 0, 1) := by decide +kernel
theorem dX11_count_112 : decode cX11_count 112 = .ok (.getfield 10, 3) := by decide +kernel
theorem dX11_count_115 : decode cX11_count 115 = .ok (.getfield 209, 3) := by decide +kernel
theorem dX11_count_118 : decode cX11_count 118 = .ok (.ireturn, 1) := by decide +kernel
theorem dX11_count_119 : decode cX11_count 119 = .ok (.aload_n 0, 1) := by decide +kernel
theorem dX11_count_120 : decode cX11_count 120 = .ok (.getfield 10, 3) := by decide +kernel
theorem dX11_count_123 : decode cX11_count 123 = .ok (.getfield 102, 3) := by decide +kernel
theorem dX11_count_126 : decode cX11_count 126 = .ok (.ifCond .eq 7, 3) := by decide +kernel
theorem dX11_count_129 : decode cX11_count 129 = .ok (.iconst 1, 1) := by decide +kernel
theorem dX11_count_130 : decode cX11_count 130 = .ok (.goto 4, 3) := by decide +kernel
theorem dX11_count_133 : decode cX11_count 133 = .ok (.iconst 0, 1) := by decide +kernel
theorem dX11_count_134 : decode cX11_count 134 = .ok (.ireturn, 1) := by decide +kernel
theorem dX11_count_135 : decode cX11_count 135 = .ok (.aload_n 0, 1) := by decide +kernel
theorem dX11_count_136 : decode cX11_count 136 = .ok (.getfield 10, 3) := by decide +kernel
theorem dX11_count_139 : decode cX11_count 139 = .ok (.getfield 62, 3) := by decide +kernel
theorem dX11_count_142 : decode cX11_count 142 = .ok (.getfield 75, 3) := by decide +kernel
theorem dX11_count_145 : decode cX11_count 145 = .ok (.ireturn, 1) := by decide +kernel
theorem dX11_count_146 : decode cX11_count 146 = .ok (.aload_n 0, 1) := by decide +kernel
theorem dX11_count_147 : decode cX11_count 147 = .ok (.getfield 10, 3) := by decide +kernel
theorem dX11_count_150 : decode cX11_count 150 = .ok (.getfield 131, 3) := by decide +kernel
theorem dX11_count_153 : decode cX11_count 153 = .ok (.invokevirtual 186, 3) := by decide +kernel
theorem dX11_count_156 : decode cX11_count 156 = .ok (.ireturn, 1) := by decide +kernel
theorem dX11_count_157 : decode cX11_count 157 = .ok (.aload_n 0, 1) := by decide +kernel
theorem dX11_count_158 : decode cX11_count 158 = .ok (.getfield 10, 3) := by decide +kernel
theorem dX11_count_161 : decode cX11_count 161 = .ok (.getfield 131, 3) := by decide +kernel
theorem dX11_count_164 : decode cX11_count 164 = .ok (.invokevirtual 189, 3) := by decide +kernel
theorem dX11_count_167 : decode cX11_count 167 = .ok (.ireturn, 1) := by decide +kernel
theorem dX11_count_168 : decode cX11_count 168 = .ok (.aload_n 0, 1) := by decide +kernel
theorem dX11_count_169 : decode cX11_count 169 = .ok (.getfield 10, 3) := by decide +kernel
theorem dX11_count_172 : decode cX11_count 172 = .ok (.getfield 267, 3) := by decide +kernel
theorem dX11_count_175 : decode cX11_count 175 = .ok (.ireturn, 1) := by decide +kernel
theorem dX11_count_176 : decode cX11_count 176 = .ok (.ldc 216, 2) := by decide +kernel
theorem dX11_count_178 : decode cX11_count 178 = .ok (.ireturn, 1) := by decide +kernel
set_option maxRecDepth 20000 in
theorem ggX11_image_X11_within : GoodIn wsX11_image wsX11_within := goodIn_r _ [9] (by decide +kernel) (by decide +kernel)
set_option maxRecDepth 20000 in
theorem gX11_image_X11_within : GoodIn wsX11_image (va_wsS RX11 78 yX11_within wsX11_within) := goodIn_app (goodIn_of _ (by decide +kernel)) ggX11_image_X11_within
set_option maxRecDepth 20000 in
theorem ggX11_image_X7_init : GoodIn wsX11_image wsX7_init := goodIn_r _ [11, 12, 13, 14, 15, 16, 17, 18, 19, 20, 21, 22, 23, 24, 25, 26, 27, 28, 29, 30, 31, 32, 33, 34, 35, 36, 37, 38, 39, 40, 41, 42, 43, 44, 45, 46, 47, 48, 49, 50, 51, 52, 53, 54, 55, 56, 57, 58, 59, 60, 61, 62, 63, 64, 65, 66, 67, 68, 69, 70, 71, 72, 73, 74, 75, 76, 77, 78, 79, 80, 81, 82, 83, 84, 85, 86, 87, 88, 89, 90, 91, 92, 93, 94, 95, 96, 97, 98, 99, 100, 101, 102, 103, 104, 105, 106, 107, 108, 109, 110, 111, 112, 174, 175, 160, 161, 162, 163, 164, 165, 166, 167, 168, 169, 170, 171, 172, 173, 176, 177, 178, 179, 180, 181, 182, 183, 184, 185, 186, 187, 188, 189, 190, 191, 192, 193, 194, 195, 196, 197, 198, 199, 200, 201, 202, 203, 204, 205, 206, 207, 208, 209, 210, 211, 212, 213] (by decide +kernel) (by decide +kernel)
set_option maxRecDepth 20000 in
theorem gX11_image_X7_init_n9 : GoodIn wsX11_image (wsX7_init) := ggX11_image_X7_init
set_option maxRecDepth 20000 in
theorem ggX11_image_X7_copyFrom : GoodIn wsX11_image wsX7_copyFrom := goodIn_r _ [116, 18, 22, 26, 30, 34, 38, 42, 43, 44, 45, 46, 47, 48, 49, 117, 118, 119, 17, 120, 55, 54, 121, 122, 123, 124, 125, 126, 127, 21, 128, 59, 61, 62, 63, 64, 65, 66, 67, 129, 8, 130, 131, 132, 133, 134, 135, 136, 137, 138, 25, 139, 71, 72, 73, 74, 75, 76, 77, 78, 140, 141, 142, 29, 143, 84, 85, 86, 87, 144, 145, 146, 33, 147, 91, 99, 92, 93, 94, 95, 96, 97, 98, 100, 148, 149, 150, 37, 151, 104, 105, 106, 107, 108, 152, 153, 154, 41, 155, 112, 160, 161, 162, 163, 164, 165, 166, 167, 168, 169, 170, 171, 172, 173, 174, 175, 176, 177, 178, 179, 180, 181, 182, 183, 184, 185, 186, 187, 188, 189, 190, 191, 192, 193, 194, 195, 196, 197, 198, 199, 200, 201, 202, 203, 204, 205, 206, 207, 208, 209, 210, 211, 212, 213] (by decide +kernel) (by decide +kernel)
set_option maxRecDepth 20000 in
theorem gX11_image_X7_copyFrom : GoodIn wsX11_image (wsV RX11 270 RX7 yX7_copyFrom wsX7_copyFrom) := goodIn_app (goodIn_of _ (by decide +kernel)) ggX11_image_X7_copyFrom
theorem dX11_image_0 : decode cX11_image 0 = .ok (.iload_n 1, 1) := by decide +kernel
theorem dX11_image_1 : decode cX11_image 1 = .ok (.iconst 0, 1) := by decide +kernel
theorem dX11_image_2 : decode cX11_image 2 = .ok (.iconst 2, 1) := by decide +kernel
theorem dX11_image_3 : decode cX11_image 3 = .ok (.invokestatic 78, 3) := by decide +kernel
theorem dX11_image_6 : decode cX11_image 6 = .ok (.ifCond .ne 5, 3) := by decide +kernel
theorem dX11_image_9 : decode cX11_image 9 = .ok (.iconst 0, 1) := by decide +kernel
theorem dX11_image_10 : decode cX11_image 10 = .ok (.ireturn, 1) := by decide +kernel
theorem dX11_image_11 : decode cX11_image 11 = .ok (.aload_n 0, 1) := by decide +kernel
theorem dX11_image_12 : decode cX11_image 12 = .ok (.getfield 16, 3) := by decide +kernel
theorem dX11_image_15 : decode cX11_image 15 = .ok (.iload_n 1, 1) := by decide +kernel
theorem dX11_image_16 : decode cX11_image 16 = .ok (.aaload, 1) := by decide +kernel
theorem dX11_image_17 : decode cX11_image 17 = .ok (.astore_n 2, 1) := by decide +kernel
theorem dX11_image_18 : decode cX11_image 18 = .ok (.aload_n 2, 1) := by decide +kernel
theorem dX11_image_19 : decode cX11_image 19 = .ok (.ifnonnull 18, 3) := by decide +kernel
theorem dX11_image_22 : decode cX11_image 22 = .ok (.new 7, 3) := by decide +kernel
theorem dX11_image_25 : decode cX11_image 25 = .ok (.dup, 1) := by decide +kernel
theorem dX11_image_26 : decode cX11_image 26 = .ok (.invokespecial 9, 3) := by decide +kernel
theorem dX11_image_29 : decode cX11_image 29 = .ok (.astore_n 2, 1) := by decide +kernel
theorem dX11_image_30 : decode cX11_image 30 = .ok (.aload_n 0, 1) := by decide +kernel
theorem dX11_image_31 : decode cX11_image 31 = .ok (.getfield 16, 3) := by decide +kernel
theorem dX11_image_34 : decode cX11_image 34 = .ok (.iload_n 1, 1) := by decide +kernel
theorem dX11_image_35 : decode cX11_image 35 = .ok (.aload_n 2, 1) := by decide +kernel
theorem dX11_image_36 : decode cX11_image 36 = .ok (.aastore, 1) := by decide +kernel
theorem dX11_image_37 : decode cX11_image 37 = .ok (.aload_n 2, 1) := by decide +kernel
theorem dX11_image_38 : decode cX11_image 38 = .ok (.aload_n 0, 1) := by decide +kernel
theorem dX11_image_39 : decode cX11_image 39 = .ok (.getfield 10, 3) := by decide +kernel
theorem dX11_image_42 : decode cX11_image 42 = .ok (.invokevirtual 270, 3) := by decide +kernel
theorem dX11_image_45 : decode cX11_image 45 = .ok (.iconst 1, 1) := by decide +kernel
theorem dX11_image_46 : decode cX11_image 46 = .ok (.ireturn, 1) := by decide +kernel
set_option maxRecDepth 20000 in
theorem ggX11_again_X11_within : GoodIn wsX11_again wsX11_within := goodIn_r _ [6] (by decide +kernel) (by decide +kernel)
set_option maxRecDepth 20000 in
theorem gX11_again_X11_within : GoodIn wsX11_again (va_wsS RX11 78 yX11_within wsX11_within) := goodIn_app (goodIn_of _ (by decide +kernel)) ggX11_again_X11_within
set_option maxRecDepth 20000 in
theorem ggX11_again_X7_copyFrom : GoodIn wsX11_again wsX7_copyFrom := goodIn_r _ [11, 12, 13, 14, 15, 16, 17, 18, 19, 20, 21, 22, 23, 24, 25, 26, 27, 28, 29, 30, 31, 32, 33, 34, 35, 36, 37, 38, 39, 40, 41, 42, 43, 44, 45, 46, 47, 48, 49, 50, 5, 51, 52, 53, 54, 55, 56, 57, 58, 59, 60, 61, 62, 63, 64, 65, 66, 67, 68, 69, 70, 71, 72, 73, 74, 75, 76, 77, 78, 79, 80, 81, 82, 83, 84, 85, 86, 87, 88, 89, 90, 91, 92, 93, 94, 95, 96, 97, 98, 99, 100, 101, 102, 103, 104, 105, 106, 107, 108, 109, 114, 115, 116, 117, 118, 119, 120, 121, 122, 123, 124, 125, 126, 127, 128, 129, 130, 131, 132, 133, 134, 135, 136, 137, 138, 139, 140, 141, 142, 143, 144, 145, 146, 147, 148, 149, 150, 151, 152, 153, 154, 155, 156, 157, 158, 159, 160, 161, 162, 163, 164, 165, 166, 167] (by decide +kernel) (by decide +kernel)
set_option maxRecDepth 20000 in
theorem gX11_again_X7_copyFrom : GoodIn wsX11_again (wsV RX11 270 RX7 yX7_copyFrom wsX7_copyFrom) := goodIn_app (goodIn_of _ (by decide +kernel)) ggX11_again_X7_copyFrom
theorem dX11_again_0 : decode cX11_again 0 = .ok (.iload_n 1, 1) := by decide +kernel
theorem dX11_again_1 : decode cX11_again 1 = .ok (.iconst 0, 1) := by decide +kernel
theorem dX11_again_2 : decode cX11_again 2 = .ok (.iconst 2, 1) := by decide +kernel
theorem dX11_again_3 : decode cX11_again 3 = .ok (.invokestatic 78, 3) := by decide +kernel
theorem dX11_again_6 : decode cX11_again 6 = .ok (.ifCond .ne 5, 3) := by decide +kernel
theorem dX11_again_9 : decode cX11_again 9 = .ok (.iconst 0, 1) := by decide +kernel
theorem dX11_again_10 : decode cX11_again 10 = .ok (.ireturn, 1) := by decide +kernel
theorem dX11_again_11 : decode cX11_again 11 = .ok (.aload_n 0, 1) := by decide +kernel
theorem dX11_again_12 : decode cX11_again 12 = .ok (.getfield 16, 3) := by decide +kernel
theorem dX11_again_15 : decode cX11_again 15 = .ok (.iload_n 1, 1) := by decide +kernel
theorem dX11_again_16 : decode cX11_again 16 = .ok (.aaload, 1) := by decide +kernel
theorem dX11_again_17 : decode cX11_again 17 = .ok (.astore_n 2, 1) := by decide +kernel
theorem dX11_again_18 : decode cX11_again 18 = .ok (.aload_n 2, 1) := by decide +kernel
theorem dX11_again_19 : decode cX11_again 19 = .ok (.ifnonnull 5, 3) := by decide +kernel
theorem dX11_again_22 : decode cX11_again 22 = .ok (.iconst 0, 1) := by decide +kernel
theorem dX11_again_23 : decode cX11_again 23 = .ok (.ireturn, 1) := by decide +kernel
theorem dX11_again_24 : decode cX11_again 24 = .ok (.aload_n 0, 1) := by decide +kernel
theorem dX11_again_25 : decode cX11_again 25 = .ok (.getfield 10, 3) := by decide +kernel
theorem dX11_again_28 : decode cX11_again 28 = .ok (.aload_n 2, 1) := by decide +kernel
theorem dX11_again_29 : decode cX11_again 29 = .ok (.invokevirtual 270, 3) := by decide +kernel
theorem dX11_again_32 : decode cX11_again 32 = .ok (.iconst 1, 1) := by decide +kernel
theorem dX11_again_33 : decode cX11_again 33 = .ok (.ireturn, 1) := by decide +kernel
theorem dX11_within_0 : decode cX11_within 0 = .ok (.iload_n 0, 1) := by decide +kernel
theorem dX11_within_1 : decode cX11_within 1 = .ok (.iload_n 1, 1) := by decide +kernel
theorem dX11_within_2 : decode cX11_within 2 = .ok (.if_icmp .lt 12, 3) := by decide +kernel
theorem dX11_within_5 : decode cX11_within 5 = .ok (.iload_n 0, 1) := by decide +kernel
theorem dX11_within_6 : decode cX11_within 6 = .ok (.iload_n 2, 1) := by decide +kernel
theorem dX11_within_7 : decode cX11_within 7 = .ok (.if_icmp .gt 7, 3) := by decide +kernel
theorem dX11_within_10 : decode cX11_within 10 = .ok (.iconst 1, 1) := by decide +kernel
theorem dX11_within_11 : decode cX11_within 11 = .ok (.goto 4, 3) := by decide +kernel
theorem dX11_within_14 : decode cX11_within 14 = .ok (.iconst 0, 1) := by decide +kernel
theorem dX11_within_15 : decode cX11_within 15 = .ok (.ireturn, 1) := by decide +kernel
theorem dX11_copyRow_0 : decode cX11_copyRow 0 = .ok (.aload_n 0, 1) := by decide +kernel
theorem dX11_copyRow_1 : decode cX11_copyRow 1 = .ok (.iconst 0, 1) := by decide +kernel
theorem dX11_copyRow_2 : decode cX11_copyRow 2 = .ok (.aload_n 1, 1) := by decide +kernel
theorem dX11_copyRow_3 : decode cX11_copyRow 3 = .ok (.iconst 0, 1) := by decide +kernel
theorem dX11_copyRow_4 : decode cX11_copyRow 4 = .ok (.aload_n 0, 1) := by decide +kernel
theorem dX11_copyRow_5 : decode cX11_copyRow 5 = .ok (.arraylength, 1) := by decide +kernel
theorem dX11_copyRow_6 : decode cX11_copyRow 6 = .ok (.aload_n 1, 1) := by decide +kernel
theorem dX11_copyRow_7 : decode cX11_copyRow 7 = .ok (.arraylength, 1) := by decide +kernel
theorem dX11_copyRow_8 : decode cX11_copyRow 8 = .ok (.invokestatic 272, 3) := by decide +kernel
theorem dX11_copyRow_11 : decode cX11_copyRow 11 = .ok (.invokestatic 277, 3) := by decide +kernel
theorem dX11_copyRow_14 : decode cX11_copyRow 14 = .ok (.return_, 1) := by decide +kernel
theorem dJ9_abs_0f7a4_0 : decode cJ9_abs_0f7a4 0 = .ok (.iload_n 0, 1) := by decide +kernel
theorem dJ9_abs_0f7a4_1 : decode cJ9_abs_0f7a4 1 = .ok (.ifCond .ge 8, 3) := by decide +kernel
theorem dJ9_abs_0f7a4_4 : decode cJ9_abs_0f7a4 4 = .ok (.iload_n 0, 1) := by decide +kernel
theorem dJ9_abs_0f7a4_5 : decode cJ9_abs_0f7a4 5 = .ok (.ineg, 1) := by decide +kernel
theorem dJ9_abs_0f7a4_6 : decode cJ9_abs_0f7a4 6 = .ok (.goto 4, 3) := by decide +kernel
theorem dJ9_abs_0f7a4_9 : decode cJ9_abs_0f7a4 9 = .ok (.iload_n 0, 1) := by decide +kernel
theorem dJ9_abs_0f7a4_10 : decode cJ9_abs_0f7a4 10 = .ok (.ireturn, 1) := by decide +kernel
theorem dJ9_min_7cf53_0 : decode cJ9_min_7cf53 0 = .ok (.iload_n 0, 1) := by decide +kernel
theorem dJ9_min_7cf53_1 : decode cJ9_min_7cf53 1 = .ok (.iload_n 1, 1) := by decide +kernel
theorem dJ9_min_7cf53_2 : decode cJ9_min_7cf53 2 = .ok (.if_icmp .gt 7, 3) := by decide +kernel
theorem dJ9_min_7cf53_5 : decode cJ9_min_7cf53 5 = .ok (.iload_n 0, 1) := by decide +kernel
theorem dJ9_min_7cf53_6 : decode cJ9_min_7cf53 6 = .ok (.goto 4, 3) := by decide +kernel
theorem dJ9_min_7cf53_9 : decode cJ9_min_7cf53 9 = .ok (.iload_n 1, 1) := by decide +kernel
theorem dJ9_min_7cf53_10 : decode cJ9_min_7cf53 10 = .ok (.ireturn, 1) := by decide +kernel
set_option maxRecDepth 20000 in
theorem ggJ0_length_8abf5_J0_coder_7d493 : GoodIn wsJ0_length_8abf5 wsJ0_coder_7d493 := goodIn_r _ [6, 7, 8] (by decide +kernel) (by decide +kernel)
set_option maxRecDepth 20000 in
theorem gJ0_length_8abf5_J0_coder_7d493 : GoodIn wsJ0_length_8abf5 (wsV RJ0 335 RJ0 yJ0_coder_7d493 wsJ0_coder_7d493) := goodIn_app (goodIn_of _ (by decide +kernel)) ggJ0_length_8abf5_J0_coder_7d493
theorem dJ0_length_8abf5_0 : decode cJ0_length_8abf5 0 = .ok (.aload_n 0, 1) := by decide +kernel
theorem dJ0_length_8abf5_1 : decode cJ0_length_8abf5 1 = .ok (.getfield 9, 3) := by decide +kernel
theorem dJ0_length_8abf5_4 : decode cJ0_length_8abf5 4 = .ok (.arraylength, 1) := by decide +kernel
theorem dJ0_length_8abf5_5 : decode cJ0_length_8abf5 5 = .ok (.aload_n 0, 1) := by decide +kernel
theorem dJ0_length_8abf5_6 : decode cJ0_length_8abf5 6 = .ok (.invokevirtual 335, 3) := by decide +kernel
theorem dJ0_length_8abf5_9 : decode cJ0_length_8abf5 9 = .ok (.ishr, 1) := by decide +kernel
theorem dJ0_length_8abf5_10 : decode cJ0_length_8abf5 10 = .ok (.ireturn, 1) := by decide +kernel
set_option maxRecDepth 20000 in
theorem ggJ0_charAt_5068e_J0_isLatin1_aae02 : GoodIn wsJ0_charAt_5068e wsJ0_isLatin1_aae02 := goodIn_r _ [6, 7, 8] (by decide +kernel) (by decide +kernel)
set_option maxRecDepth 20000 in
theorem gJ0_charAt_5068e_J0_isLatin1_aae02 : GoodIn wsJ0_charAt_5068e (wsV RJ0 492 RJ0 yJ0_isLatin1_aae02 wsJ0_isLatin1_aae02) := goodIn_app (goodIn_of _ (by decide +kernel)) ggJ0_charAt_5068e_J0_isLatin1_aae02
set_option maxRecDepth 20000 in
theorem ggJ0_charAt_5068e_J1_charAt_3b067 : GoodIn wsJ0_charAt_5068e wsJ1_charAt_3b067 := goodIn_r _ [12, 13, 14, 5, 15, 16, 17, 18, 19, 20] (by decide +kernel) (by decide +kernel)
set_option maxRecDepth 20000 in
theorem gJ0_charAt_5068e_J1_charAt_3b067 : GoodIn wsJ0_charAt_5068e (va_wsS RJ0 495 yJ1_charAt_3b067 wsJ1_charAt_3b067) := goodIn_app (goodIn_of _ (by decide +kernel)) ggJ0_charAt_5068e_J1_charAt_3b067
set_option maxRecDepth 20000 in
theorem ggJ0_charAt_5068e_J2_charAt_3b067 : GoodIn wsJ0_charAt_5068e wsJ2_charAt_3b067 := goodIn_r _ [24, 25, 26, 23, 27, 28, 29, 30, 31, 14, 5, 15, 16, 17, 18, 19, 20, 32, 33, 34, 35, 36, 37] (by decide +kernel) (by decide +kernel)
set_option maxRecDepth 20000 in
theorem gJ0_charAt_5068e_J2_charAt_3b067 : GoodIn wsJ0_charAt_5068e (va_wsS RJ0 498 yJ2_charAt_3b067 wsJ2_charAt_3b067) := goodIn_app (goodIn_of _ (by decide +kernel)) ggJ0_charAt_5068e_J2_charAt_3b067
theorem dJ0_charAt_5068e_0 : decode cJ0_charAt_5068e 0 = .ok (.aload_n 0, 1) := by decide +kernel
theorem dJ0_charAt_5068e_1 : decode cJ0_charAt_5068e 1 = .ok (.invokevirtual 492, 3) := by decide +kernel
theorem dJ0_charAt_5068e_4 : decode cJ0_charAt_5068e 4 = .ok (.ifCond .eq 12, 3) := by decide +kernel
theorem dJ0_charAt_5068e_7 : decode cJ0_charAt_5068e 7 = .ok (.aload_n 0, 1) := by decide +kernel
theorem dJ0_charAt_5068e_8 : decode cJ0_charAt_5068e 8 = .ok (.getfield 9, 3) := by decide +kernel
theorem dJ0_charAt_5068e_11 : decode cJ0_charAt_5068e 11 = .ok (.iload_n 1, 1) := by decide +kernel
theorem dJ0_charAt_5068e_12 : decode cJ0_charAt_5068e 12 = .ok (.invokestatic 495, 3) := by decide +kernel
theorem dJ0_charAt_5068e_15 : decode cJ0_charAt_5068e 15 = .ok (.ireturn, 1) := by decide +kernel
theorem dJ0_charAt_5068e_16 : decode cJ0_charAt_5068e 16 = .ok (.aload_n 0, 1) := by decide +kernel
theorem dJ0_charAt_5068e_17 : decode cJ0_charAt_5068e 17 = .ok (.getfield 9, 3) := by decide +kernel
theorem dJ0_charAt_5068e_20 : decode cJ0_charAt_5068e 20 = .ok (.iload_n 1, 1) := by decide +kernel
theorem dJ0_charAt_5068e_21 : decode cJ0_charAt_5068e 21 = .ok (.invokestatic 498, 3) := by decide +kernel
theorem dJ0_charAt_5068e_24 : decode cJ0_charAt_5068e 24 = .ok (.ireturn, 1) := by decide +kernel
theorem dJ0_coder_7d493_0 : decode cJ0_coder_7d493 0 = .ok (.getstatic 38, 3) := by decide +kernel
theorem dJ0_coder_7d493_3 : decode cJ0_coder_7d493 3 = .ok (.ifCond .eq 10, 3) := by decide +kernel
theorem dJ0_coder_7d493_6 : decode cJ0_coder_7d493 6 = .ok (.aload_n 0, 1) := by decide +kernel
theorem dJ0_coder_7d493_7 : decode cJ0_coder_7d493 7 = .ok (.getfield 15, 3) := by decide +kernel
theorem dJ0_coder_7d493_10 : decode cJ0_coder_7d493 10 = .ok (.goto 4, 3) := by decide +kernel
theorem dJ0_coder_7d493_13 : decode cJ0_coder_7d493 13 = .ok (.iconst 1, 1) := by decide +kernel
theorem dJ0_coder_7d493_14 : decode cJ0_coder_7d493 14 = .ok (.ireturn, 1) := by decide +kernel
theorem dJ0_isLatin1_aae02_0 : decode cJ0_isLatin1_aae02 0 = .ok (.getstatic 38, 3) := by decide +kernel
theorem dJ0_isLatin1_aae02_3 : decode cJ0_isLatin1_aae02 3 = .ok (.ifCond .eq 14, 3) := by decide +kernel
theorem dJ0_isLatin1_aae02_6 : decode cJ0_isLatin1_aae02 6 = .ok (.aload_n 0, 1) := by decide +kernel
theorem dJ0_isLatin1_aae02_7 : decode cJ0_isLatin1_aae02 7 = .ok (.getfield 15, 3) := by decide +kernel
theorem dJ0_isLatin1_aae02_10 : decode cJ0_isLatin1_aae02 10 = .ok (.ifCond .ne 7, 3) := by decide +kernel
theorem dJ0_isLatin1_aae02_13 : decode cJ0_isLatin1_aae02 13 = .ok (.iconst 1, 1) := by decide +kernel
theorem dJ0_isLatin1_aae02_14 : decode cJ0_isLatin1_aae02 14 = .ok (.goto 4, 3) := by decide +kernel
theorem dJ0_isLatin1_aae02_17 : decode cJ0_isLatin1_aae02 17 = .ok (.iconst 0, 1) := by decide +kernel
theorem dJ0_isLatin1_aae02_18 : decode cJ0_isLatin1_aae02 18 = .ok (.ireturn, 1) := by decide +kernel
set_option maxRecDepth 20000 in
theorem ggJ0_checkIndex_df160_J3_checkIndex_8e157 : GoodIn wsJ0_checkIndex_df160 wsJ3_checkIndex_8e157 := goodIn_r _ [5] (by decide +kernel) (by decide +kernel)
set_option maxRecDepth 20000 in
theorem gJ0_checkIndex_df160_J3_checkIndex_8e157 : GoodIn wsJ0_checkIndex_df160 (va_wsS RJ0 1059 yJ3_checkIndex_8e157 wsJ3_checkIndex_8e157) := goodIn_app (goodIn_of _ (by decide +kernel)) ggJ0_checkIndex_df160_J3_checkIndex_8e157
theorem dJ0_checkIndex_df160_0 : decode cJ0_checkIndex_df160 0 = .ok (.iload_n 0, 1) := by decide +kernel
theorem dJ0_checkIndex_df160_1 : decode cJ0_checkIndex_df160 1 = .ok (.iload_n 1, 1) := by decide +kernel
theorem dJ0_checkIndex_df160_2 : decode cJ0_checkIndex_df160 2 = .ok (.getstatic 1053, 3) := by decide +kernel
theorem dJ0_checkIndex_df160_5 : decode cJ0_checkIndex_df160 5 = .ok (.invokestatic 1059, 3) := by decide +kernel
theorem dJ0_checkIndex_df160_8 : decode cJ0_checkIndex_df160 8 = .ok (.pop, 1) := by decide +kernel
theorem dJ0_checkIndex_df160_9 : decode cJ0_checkIndex_df160 9 = .ok (.return_, 1) := by decide +kernel
set_option maxRecDepth 20000 in
theorem ggJ1_charAt_3b067_J0_checkIndex_df160 : GoodIn wsJ1_charAt_3b067 wsJ0_checkIndex_df160 := goodIn_r _ [4, 5, 6, 7, 8, 9] (by decide +kernel) (by decide +kernel)
set_option maxRecDepth 20000 in
theorem gJ1_charAt_3b067_J0_checkIndex_df160 : GoodIn wsJ1_charAt_3b067 (va_wsS RJ1 9 yJ0_checkIndex_df160 wsJ0_checkIndex_df160) := goodIn_app (goodIn_of _ (by decide +kernel)) ggJ1_charAt_3b067_J0_checkIndex_df160
theorem dJ1_charAt_3b067_0 : decode cJ1_charAt_3b067 0 = .ok (.iload_n 1, 1) := by decide +kernel
theorem dJ1_charAt_3b067_1 : decode cJ1_charAt_3b067 1 = .ok (.aload_n 0, 1) := by decide +kernel
theorem dJ1_charAt_3b067_2 : decode cJ1_charAt_3b067 2 = .ok (.arraylength, 1) := by decide +kernel
theorem dJ1_charAt_3b067_3 : decode cJ1_charAt_3b067 3 = .ok (.invokestatic 9, 3) := by decide +kernel
theorem dJ1_charAt_3b067_6 : decode cJ1_charAt_3b067 6 = .ok (.aload_n 0, 1) := by decide +kernel
theorem dJ1_charAt_3b067_7 : decode cJ1_charAt_3b067 7 = .ok (.iload_n 1, 1) := by decide +kernel
theorem dJ1_charAt_3b067_8 : decode cJ1_charAt_3b067 8 = .ok (.baload, 1) := by decide +kernel
theorem dJ1_charAt_3b067_9 : decode cJ1_charAt_3b067 9 = .ok (.sipush 255, 3) := by decide +kernel
theorem dJ1_charAt_3b067_12 : decode cJ1_charAt_3b067 12 = .ok (.iand, 1) := by decide +kernel
theorem dJ1_charAt_3b067_13 : decode cJ1_charAt_3b067 13 = .ok (.i2c, 1) := by decide +kernel
theorem dJ1_charAt_3b067_14 : decode cJ1_charAt_3b067 14 = .ok (.ireturn, 1) := by decide +kernel
set_option maxRecDepth 20000 in
theorem ggJ2_getChar_3b067_J2_length_9d52b : GoodIn wsJ2_getChar_3b067 wsJ2_length_9d52b := goodIn_r _ [7] (by decide +kernel) (by decide +kernel)
set_option maxRecDepth 20000 in
theorem gJ2_getChar_3b067_J2_length_9d52b : GoodIn wsJ2_getChar_3b067 (va_wsS RJ2 48 yJ2_length_9d52b wsJ2_length_9d52b) := goodIn_app (goodIn_of _ (by decide +kernel)) ggJ2_getChar_3b067_J2_length_9d52b
theorem dJ2_getChar_3b067_0 : decode cJ2_getChar_3b067 0 = .ok (.getstatic 44, 3) := by decide +kernel
theorem dJ2_getChar_3b067_3 : decode cJ2_getChar_3b067 3 = .ok (.ifCond .ne 25, 3) := by decide +kernel
theorem dJ2_getChar_3b067_6 : decode cJ2_getChar_3b067 6 = .ok (.iload_n 1, 1) := by decide +kernel
theorem dJ2_getChar_3b067_7 : decode cJ2_getChar_3b067 7 = .ok (.ifCond .lt 11, 3) := by decide +kernel
theorem dJ2_getChar_3b067_10 : decode cJ2_getChar_3b067 10 = .ok (.iload_n 1, 1) := by decide +kernel
theorem dJ2_getChar_3b067_11 : decode cJ2_getChar_3b067 11 = .ok (.aload_n 0, 1) := by decide +kernel
theorem dJ2_getChar_3b067_12 : decode cJ2_getChar_3b067 12 = .ok (.invokestatic 48, 3) := by decide +kernel
theorem dJ2_getChar_3b067_15 : decode cJ2_getChar_3b067 15 = .ok (.if_icmp .lt 13, 3) := by decide +kernel
theorem dJ2_getChar_3b067_18 : decode cJ2_getChar_3b067 18 = .ok (.new 52, 3) := by decide +kernel
theorem dJ2_getChar_3b067_21 : decode cJ2_getChar_3b067 21 = .ok (.dup, 1) := by decide +kernel
theorem dJ2_getChar_3b067_22 : decode cJ2_getChar_3b067 22 = .ok (.ldc 54, 2) := by decide +kernel
theorem dJ2_getChar_3b067_24 : decode cJ2_getChar_3b067 24 = .ok (.invokespecial 56, 3) := by decide +kernel
theorem dJ2_getChar_3b067_27 : decode cJ2_getChar_3b067 27 = .ok (.athrow, 1) := by decide +kernel
theorem dJ2_getChar_3b067_28 : decode cJ2_getChar_3b067 28 = .ok (.iload_n 1, 1) := by decide +kernel
theorem dJ2_getChar_3b067_29 : decode cJ2_getChar_3b067 29 = .ok (.iconst 1, 1) := by decide +kernel
theorem dJ2_getChar_3b067_30 : decode cJ2_getChar_3b067 30 = .ok (.ishl, 1) := by decide +kernel
theorem dJ2_getChar_3b067_31 : decode cJ2_getChar_3b067 31 = .ok (.istore_n 1, 1) := by decide +kernel
theorem dJ2_getChar_3b067_32 : decode cJ2_getChar_3b067 32 = .ok (.aload_n 0, 1) := by decide +kernel
theorem dJ2_getChar_3b067_33 : decode cJ2_getChar_3b067 33 = .ok (.iload_n 1, 1) := by decide +kernel
theorem dJ2_getChar_3b067_34 : decode cJ2_getChar_3b067 34 = .ok (.iinc 1 1, 3) := by decide +kernel
theorem dJ2_getChar_3b067_37 : decode cJ2_getChar_3b067 37 = .ok (.baload, 1) := by decide +kernel
theorem dJ2_getChar_3b067_38 : decode cJ2_getChar_3b067 38 = .ok (.sipush 255, 3) := by decide +kernel
theorem dJ2_getChar_3b067_41 : decode cJ2_getChar_3b067 41 = .ok (.iand, 1) := by decide +kernel
theorem dJ2_getChar_3b067_42 : decode cJ2_getChar_3b067 42 = .ok (.getstatic 59, 3) := by decide +kernel
theorem dJ2_getChar_3b067_45 : decode cJ2_getChar_3b067 45 = .ok (.ishl, 1) := by decide +kernel
theorem dJ2_getChar_3b067_46 : decode cJ2_getChar_3b067 46 = .ok (.aload_n 0, 1) := by decide +kernel
theorem dJ2_getChar_3b067_47 : decode cJ2_getChar_3b067 47 = .ok (.iload_n 1, 1) := by decide +kernel
theorem dJ2_getChar_3b067_48 : decode cJ2_getChar_3b067 48 = .ok (.baload, 1) := by decide +kernel
theorem dJ2_getChar_3b067_49 : decode cJ2_getChar_3b067 49 = .ok (.sipush 255, 3) := by decide +kernel
theorem dJ2_getChar_3b067_52 : decode cJ2_getChar_3b067 52 = .ok (.iand, 1) := by decide +kernel
theorem dJ2_getChar_3b067_53 : decode cJ2_getChar_3b067 53 = .ok (.getstatic 63, 3) := by decide +kernel
theorem dJ2_getChar_3b067_56 : decode cJ2_getChar_3b067 56 = .ok (.ishl, 1) := by decide +kernel
theorem dJ2_getChar_3b067_57 : decode cJ2_getChar_3b067 57 = .ok (.ior, 1) := by decide +kernel
theorem dJ2_getChar_3b067_58 : decode cJ2_getChar_3b067 58 = .ok (.i2c, 1) := by decide +kernel
theorem dJ2_getChar_3b067_59 : decode cJ2_getChar_3b067 59 = .ok (.ireturn, 1) := by decide +kernel
theorem dJ2_length_9d52b_0 : decode cJ2_length_9d52b 0 = .ok (.aload_n 0, 1) := by decide +kernel
theorem dJ2_length_9d52b_1 : decode cJ2_length_9d52b 1 = .ok (.arraylength, 1) := by decide +kernel
theorem dJ2_length_9d52b_2 : decode cJ2_length_9d52b 2 = .ok (.iconst 1, 1) := by decide +kernel
theorem dJ2_length_9d52b_3 : decode cJ2_length_9d52b 3 = .ok (.ishr, 1) := by decide +kernel
theorem dJ2_length_9d52b_4 : decode cJ2_length_9d52b 4 = .ok (.ireturn, 1) := by decide +kernel
set_option maxRecDepth 20000 in
theorem ggJ2_charAt_3b067_J2_checkIndex_2214a : GoodIn wsJ2_charAt_3b067 wsJ2_checkIndex_2214a := goodIn_r _ [4, 5, 6, 3, 7, 8, 9, 10, 11, 12, 13, 14, 15, 16] (by decide +kernel) (by decide +kernel)
set_option maxRecDepth 20000 in
theorem gJ2_charAt_3b067_J2_checkIndex_2214a : GoodIn wsJ2_charAt_3b067 (va_wsS RJ2 67 yJ2_checkIndex_2214a wsJ2_checkIndex_2214a) := goodIn_app (goodIn_of _ (by decide +kernel)) ggJ2_charAt_3b067_J2_checkIndex_2214a
set_option maxRecDepth 20000 in
theorem ggJ2_charAt_3b067_J2_getChar_3b067 : GoodIn wsJ2_charAt_3b067 wsJ2_getChar_3b067 := goodIn_r _ [19, 20, 21, 22, 5, 6, 3, 7] (by decide +kernel) (by decide +kernel)
set_option maxRecDepth 20000 in
theorem gJ2_charAt_3b067_J2_getChar_3b067 : GoodIn wsJ2_charAt_3b067 (va_wsS RJ2 71 yJ2_getChar_3b067 wsJ2_getChar_3b067) := goodIn_app (goodIn_of _ (by decide +kernel)) ggJ2_charAt_3b067_J2_getChar_3b067
theorem dJ2_charAt_3b067_0 : decode cJ2_charAt_3b067 0 = .ok (.iload_n 1, 1) := by decide +kernel
theorem dJ2_charAt_3b067_1 : decode cJ2_charAt_3b067 1 = .ok (.aload_n 0, 1) := by decide +kernel
theorem dJ2_charAt_3b067_2 : decode cJ2_charAt_3b067 2 = .ok (.invokestatic 67, 3) := by decide +kernel
theorem dJ2_charAt_3b067_5 : decode cJ2_charAt_3b067 5 = .ok (.aload_n 0, 1) := by decide +kernel
theorem dJ2_charAt_3b067_6 : decode cJ2_charAt_3b067 6 = .ok (.iload_n 1, 1) := by decide +kernel
theorem dJ2_charAt_3b067_7 : decode cJ2_charAt_3b067 7 = .ok (.invokestatic 71, 3) := by decide +kernel
theorem dJ2_charAt_3b067_10 : decode cJ2_charAt_3b067 10 = .ok (.ireturn, 1) := by decide +kernel
set_option maxRecDepth 20000 in
theorem ggJ2_checkIndex_2214a_J2_length_9d52b : GoodIn wsJ2_checkIndex_2214a wsJ2_length_9d52b := goodIn_r _ [4] (by decide +kernel) (by decide +kernel)
set_option maxRecDepth 20000 in
theorem gJ2_checkIndex_2214a_J2_length_9d52b : GoodIn wsJ2_checkIndex_2214a (va_wsS RJ2 48 yJ2_length_9d52b wsJ2_length_9d52b) := goodIn_app (goodIn_of _ (by decide +kernel)) ggJ2_checkIndex_2214a_J2_length_9d52b
set_option maxRecDepth 20000 in
theorem ggJ2_checkIndex_2214a_J0_checkIndex_df160 : GoodIn wsJ2_checkIndex_2214a wsJ0_checkIndex_df160 := goodIn_r _ [8, 9, 10, 11, 12, 13] (by decide +kernel) (by decide +kernel)
set_option maxRecDepth 20000 in
theorem gJ2_checkIndex_2214a_J0_checkIndex_df160 : GoodIn wsJ2_checkIndex_2214a (va_wsS RJ2 414 yJ0_checkIndex_df160 wsJ0_checkIndex_df160) := goodIn_app (goodIn_of _ (by decide +kernel)) ggJ2_checkIndex_2214a_J0_checkIndex_df160
theorem dJ2_checkIndex_2214a_0 : decode cJ2_checkIndex_2214a 0 = .ok (.iload_n 0, 1) := by decide +kernel
theorem dJ2_checkIndex_2214a_1 : decode cJ2_checkIndex_2214a 1 = .ok (.aload_n 1, 1) := by decide +kernel
theorem dJ2_checkIndex_2214a_2 : decode cJ2_checkIndex_2214a 2 = .ok (.invokestatic 48, 3) := by decide +kernel
theorem dJ2_checkIndex_2214a_5 : decode cJ2_checkIndex_2214a 5 = .ok (.invokestatic 414, 3) := by decide +kernel
theorem dJ2_checkIndex_2214a_8 : decode cJ2_checkIndex_2214a 8 = .ok (.return_, 1) := by decide +kernel
theorem dJ3_checkIndex_8e157_0 : decode cJ3_checkIndex_8e157 0 = .ok (.iload_n 0, 1) := by decide +kernel
theorem dJ3_checkIndex_8e157_1 : decode cJ3_checkIndex_8e157 1 = .ok (.ifCond .lt 8, 3) := by decide +kernel
theorem dJ3_checkIndex_8e157_4 : decode cJ3_checkIndex_8e157 4 = .ok (.iload_n 0, 1) := by decide +kernel
theorem dJ3_checkIndex_8e157_5 : decode cJ3_checkIndex_8e157 5 = .ok (.iload_n 1, 1) := by decide +kernel
theorem dJ3_checkIndex_8e157_6 : decode cJ3_checkIndex_8e157 6 = .ok (.if_icmp .lt 10, 3) := by decide +kernel
theorem dJ3_checkIndex_8e157_9 : decode cJ3_checkIndex_8e157 9 = .ok (.aload_n 2, 1) := by decide +kernel
theorem dJ3_checkIndex_8e157_10 : decode cJ3_checkIndex_8e157 10 = .ok (.iload_n 0, 1) := by decide +kernel
theorem dJ3_checkIndex_8e157_11 : decode cJ3_checkIndex_8e157 11 = .ok (.iload_n 1, 1) := by decide +kernel
theorem dJ3_checkIndex_8e157_12 : decode cJ3_checkIndex_8e157 12 = .ok (.invokestatic 95, 3) := by decide +kernel
theorem dJ3_checkIndex_8e157_15 : decode cJ3_checkIndex_8e157 15 = .ok (.athrow, 1) := by decide +kernel
theorem dJ3_checkIndex_8e157_16 : decode cJ3_checkIndex_8e157 16 = .ok (.iload_n 0, 1) := by decide +kernel
theorem dJ3_checkIndex_8e157_17 : decode cJ3_checkIndex_8e157 17 = .ok (.ireturn, 1) := by decide +kernel
