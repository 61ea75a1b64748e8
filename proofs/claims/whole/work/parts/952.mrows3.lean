theorem dX12_best_25 : decode cX12_best 25 = .ok (.aload_n 0, 1) := by decide +kernel
theorem dX12_best_26 : decode cX12_best 26 = .ok (.getfield 29, 3) := by decide +kernel
theorem dX12_best_29 : decode cX12_best 29 = .ok (.iload_n 1, 1) := by decide +kernel
theorem dX12_best_30 : decode cX12_best 30 = .ok (.iload_n 2, 1) := by decide +kernel
theorem dX12_best_31 : decode cX12_best 31 = .ok (.iastore, 1) := by decide +kernel
theorem dX12_best_32 : decode cX12_best 32 = .ok (.iinc 1 1, 3) := by decide +kernel
theorem dX12_best_35 : decode cX12_best 35 = .ok (.iinc 2 1, 3) := by decide +kernel
theorem dX12_best_38 : decode cX12_best 38 = .ok (.goto (-34), 3) := by decide +kernel
theorem dX12_best_41 : decode cX12_best 41 = .ok (.aload_n 0, 1) := by decide +kernel
theorem dX12_best_42 : decode cX12_best 42 = .ok (.getfield 7, 3) := by decide +kernel
theorem dX12_best_45 : decode cX12_best 45 = .ok (.iconst 1, 1) := by decide +kernel
theorem dX12_best_46 : decode cX12_best 46 = .ok (.iaload, 1) := by decide +kernel
theorem dX12_best_47 : decode cX12_best 47 = .ok (.iconst 1, 1) := by decide +kernel
theorem dX12_best_48 : decode cX12_best 48 = .ok (.if_icmp .eq 9, 3) := by decide +kernel
theorem dX12_best_51 : decode cX12_best 51 = .ok (.iload_n 1, 1) := by decide +kernel
theorem dX12_best_52 : decode cX12_best 52 = .ok (.bipush 9, 2) := by decide +kernel
theorem dX12_best_54 : decode cX12_best 54 = .ok (.if_icmp .le 5, 3) := by decide +kernel
theorem dX12_best_57 : decode cX12_best 57 = .ok (.iconst (-1), 1) := by decide +kernel
theorem dX12_best_58 : decode cX12_best 58 = .ok (.ireturn, 1) := by decide +kernel
theorem dX12_best_59 : decode cX12_best 59 = .ok (.iconst (-1), 1) := by decide +kernel
theorem dX12_best_60 : decode cX12_best 60 = .ok (.istore_n 2, 1) := by decide +kernel
theorem dX12_best_61 : decode cX12_best 61 = .ok (.iconst 0, 1) := by decide +kernel
theorem dX12_best_62 : decode cX12_best 62 = .ok (.istore_n 3, 1) := by decide +kernel
theorem dX12_best_63 : decode cX12_best 63 = .ok (.iconst 0, 1) := by decide +kernel
theorem dX12_best_64 : decode cX12_best 64 = .ok (.istore 4, 2) := by decide +kernel
theorem dX12_best_66 : decode cX12_best 66 = .ok (.iload 4, 2) := by decide +kernel
theorem dX12_best_68 : decode cX12_best 68 = .ok (.iload_n 1, 1) := by decide +kernel
theorem dX12_best_69 : decode cX12_best 69 = .ok (.if_icmp .ge 17, 3) := by decide +kernel
theorem dX12_best_72 : decode cX12_best 72 = .ok (.aload_n 0, 1) := by decide +kernel
theorem dX12_best_73 : decode cX12_best 73 = .ok (.getfield 32, 3) := by decide +kernel
theorem dX12_best_76 : decode cX12_best 76 = .ok (.iload 4, 2) := by decide +kernel
theorem dX12_best_78 : decode cX12_best 78 = .ok (.iconst 0, 1) := by decide +kernel
theorem dX12_best_79 : decode cX12_best 79 = .ok (.iastore, 1) := by decide +kernel
theorem dX12_best_80 : decode cX12_best 80 = .ok (.iinc 4 1, 3) := by decide +kernel
theorem dX12_best_83 : decode cX12_best 83 = .ok (.goto (-17), 3) := by decide +kernel
theorem dX12_best_86 : decode cX12_best 86 = .ok (.iconst 1, 1) := by decide +kernel
theorem dX12_best_87 : decode cX12_best 87 = .ok (.istore 4, 2) := by decide +kernel
theorem dX12_best_89 : decode cX12_best 89 = .ok (.iload 4, 2) := by decide +kernel
theorem dX12_best_91 : decode cX12_best 91 = .ok (.ifCond .eq 84, 3) := by decide +kernel
theorem dX12_best_94 : decode cX12_best 94 = .ok (.aload_n 0, 1) := by decide +kernel
theorem dX12_best_95 : decode cX12_best 95 = .ok (.iload_n 1, 1) := by decide +kernel
theorem dX12_best_96 : decode cX12_best 96 = .ok (.invokevirtual 202, 3) := by decide +kernel
theorem dX12_best_99 : decode cX12_best 99 = .ok (.ifCond .eq 66, 3) := by decide +kernel
theorem dX12_best_102 : decode cX12_best 102 = .ok (.aload_n 0, 1) := by decide +kernel
theorem dX12_best_103 : decode cX12_best 103 = .ok (.getfield 190, 3) := by decide +kernel
theorem dX12_best_106 : decode cX12_best 106 = .ok (.iload_n 2, 1) := by decide +kernel
theorem dX12_best_107 : decode cX12_best 107 = .ok (.if_icmp .gt 19, 3) := by decide +kernel
theorem dX12_best_110 : decode cX12_best 110 = .ok (.aload_n 0, 1) := by decide +kernel
theorem dX12_best_111 : decode cX12_best 111 = .ok (.getfield 190, 3) := by decide +kernel
theorem dX12_best_114 : decode cX12_best 114 = .ok (.iload_n 2, 1) := by decide +kernel
theorem dX12_best_115 : decode cX12_best 115 = .ok (.if_icmp .ne 50, 3) := by decide +kernel
theorem dX12_best_118 : decode cX12_best 118 = .ok (.aload_n 0, 1) := by decide +kernel
theorem dX12_best_119 : decode cX12_best 119 = .ok (.getfield 193, 3) := by decide +kernel
theorem dX12_best_122 : decode cX12_best 122 = .ok (.iload_n 3, 1) := by decide +kernel
theorem dX12_best_123 : decode cX12_best 123 = .ok (.if_icmp .ge 42, 3) := by decide +kernel
theorem dX12_best_126 : decode cX12_best 126 = .ok (.aload_n 0, 1) := by decide +kernel
theorem dX12_best_127 : decode cX12_best 127 = .ok (.getfield 190, 3) := by decide +kernel
theorem dX12_best_130 : decode cX12_best 130 = .ok (.istore_n 2, 1) := by decide +kernel
theorem dX12_best_131 : decode cX12_best 131 = .ok (.aload_n 0, 1) := by decide +kernel
theorem dX12_best_132 : decode cX12_best 132 = .ok (.getfield 193, 3) := by decide +kernel
theorem dX12_best_135 : decode cX12_best 135 = .ok (.istore_n 3, 1) := by decide +kernel
theorem dX12_best_136 : decode cX12_best 136 = .ok (.iconst 0, 1) := by decide +kernel
theorem dX12_best_137 : decode cX12_best 137 = .ok (.istore 5, 2) := by decide +kernel
theorem dX12_best_139 : decode cX12_best 139 = .ok (.iload 5, 2) := by decide +kernel
theorem dX12_best_141 : decode cX12_best 141 = .ok (.iload_n 1, 1) := by decide +kernel
theorem dX12_best_142 : decode cX12_best 142 = .ok (.if_icmp .ge 23, 3) := by decide +kernel
theorem dX12_best_145 : decode cX12_best 145 = .ok (.aload_n 0, 1) := by decide +kernel
theorem dX12_best_146 : decode cX12_best 146 = .ok (.getfield 35, 3) := by decide +kernel
theorem dX12_best_149 : decode cX12_best 149 = .ok (.iload 5, 2) := by decide +kernel
theorem dX12_best_151 : decode cX12_best 151 = .ok (.aload_n 0, 1) := by decide +kernel
theorem dX12_best_152 : decode cX12_best 152 = .ok (.getfield 32, 3) := by decide +kernel
theorem dX12_best_155 : decode cX12_best 155 = .ok (.iload 5, 2) := by decide +kernel
theorem dX12_best_157 : decode cX12_best 157 = .ok (.iaload, 1) := by decide +kernel
theorem dX12_best_158 : decode cX12_best 158 = .ok (.iastore, 1) := by decide +kernel
theorem dX12_best_159 : decode cX12_best 159 = .ok (.iinc 5 1, 3) := by decide +kernel
theorem dX12_best_162 : decode cX12_best 162 = .ok (.goto (-23), 3) := by decide +kernel
theorem dX12_best_165 : decode cX12_best 165 = .ok (.aload_n 0, 1) := by decide +kernel
theorem dX12_best_166 : decode cX12_best 166 = .ok (.iload_n 1, 1) := by decide +kernel
theorem dX12_best_167 : decode cX12_best 167 = .ok (.invokevirtual 205, 3) := by decide +kernel
theorem dX12_best_170 : decode cX12_best 170 = .ok (.istore 4, 2) := by decide +kernel
theorem dX12_best_172 : decode cX12_best 172 = .ok (.goto (-83), 3) := by decide +kernel
theorem dX12_best_175 : decode cX12_best 175 = .ok (.iload_n 2, 1) := by decide +kernel
theorem dX12_best_176 : decode cX12_best 176 = .ok (.ifCond .ge 5, 3) := by decide +kernel
theorem dX12_best_179 : decode cX12_best 179 = .ok (.iconst (-1), 1) := by decide +kernel
theorem dX12_best_180 : decode cX12_best 180 = .ok (.ireturn, 1) := by decide +kernel
theorem dX12_best_181 : decode cX12_best 181 = .ok (.aload_n 0, 1) := by decide +kernel
theorem dX12_best_182 : decode cX12_best 182 = .ok (.getfield 7, 3) := by decide +kernel
theorem dX12_best_185 : decode cX12_best 185 = .ok (.bipush 16, 2) := by decide +kernel
theorem dX12_best_187 : decode cX12_best 187 = .ok (.iconst 1, 1) := by decide +kernel
theorem dX12_best_188 : decode cX12_best 188 = .ok (.iastore, 1) := by decide +kernel
theorem dX12_best_189 : decode cX12_best 189 = .ok (.iconst 0, 1) := by decide +kernel
theorem dX12_best_190 : decode cX12_best 190 = .ok (.istore 5, 2) := by decide +kernel
theorem dX12_best_192 : decode cX12_best 192 = .ok (.iload 5, 2) := by decide +kernel
theorem dX12_best_194 : decode cX12_best 194 = .ok (.bipush 12, 2) := by decide +kernel
theorem dX12_best_196 : decode cX12_best 196 = .ok (.if_icmp .ge 18, 3) := by decide +kernel
theorem dX12_best_199 : decode cX12_best 199 = .ok (.aload_n 0, 1) := by decide +kernel
theorem dX12_best_200 : decode cX12_best 200 = .ok (.iload 5, 2) := by decide +kernel
theorem dX12_best_202 : decode cX12_best 202 = .ok (.bipush 7, 2) := by decide +kernel
theorem dX12_best_204 : decode cX12_best 204 = .ok (.iconst 2, 1) := by decide +kernel
theorem dX12_best_205 : decode cX12_best 205 = .ok (.invokevirtual 175, 3) := by decide +kernel
theorem dX12_best_208 : decode cX12_best 208 = .ok (.iinc 5 1, 3) := by decide +kernel
theorem dX12_best_211 : decode cX12_best 211 = .ok (.goto (-19), 3) := by decide +kernel
theorem dX12_best_214 : decode cX12_best 214 = .ok (.iconst 0, 1) := by decide +kernel
theorem dX12_best_215 : decode cX12_best 215 = .ok (.istore 5, 2) := by decide +kernel
theorem dX12_best_217 : decode cX12_best 217 = .ok (.iload 5, 2) := by decide +kernel
theorem dX12_best_219 : decode cX12_best 219 = .ok (.iload_n 1, 1) := by decide +kernel
theorem dX12_best_220 : decode cX12_best 220 = .ok (.if_icmp .ge 29, 3) := by decide +kernel
theorem dX12_best_223 : decode cX12_best 223 = .ok (.aload_n 0, 1) := by decide +kernel
theorem dX12_best_224 : decode cX12_best 224 = .ok (.aload_n 0, 1) := by decide +kernel
theorem dX12_best_225 : decode cX12_best 225 = .ok (.getfield 29, 3) := by decide +kernel
theorem dX12_best_228 : decode cX12_best 228 = .ok (.iload 5, 2) := by decide +kernel
theorem dX12_best_230 : decode cX12_best 230 = .ok (.iaload, 1) := by decide +kernel
theorem dX12_best_231 : decode cX12_best 231 = .ok (.bipush 7, 2) := by decide +kernel
theorem dX12_best_233 : decode cX12_best 233 = .ok (.aload_n 0, 1) := by decide +kernel
theorem dX12_best_234 : decode cX12_best 234 = .ok (.getfield 35, 3) := by decide +kernel
theorem dX12_best_237 : decode cX12_best 237 = .ok (.iload 5, 2) := by decide +kernel
theorem dX12_best_239 : decode cX12_best 239 = .ok (.iaload, 1) := by decide +kernel
theorem dX12_best_240 : decode cX12_best 240 = .ok (.invokevirtual 175, 3) := by decide +kernel
theorem dX12_best_243 : decode cX12_best 243 = .ok (.iinc 5 1, 3) := by decide +kernel
theorem dX12_best_246 : decode cX12_best 246 = .ok (.goto (-29), 3) := by decide +kernel
theorem dX12_best_249 : decode cX12_best 249 = .ok (.iload_n 2, 1) := by decide +kernel
theorem dX12_best_250 : decode cX12_best 250 = .ok (.ireturn, 1) := by decide +kernel
set_option maxRecDepth 20000 in
theorem ggX12_bestSide_X12_isBale : GoodIn wsX12_bestSide wsX12_isBale := goodIn_r _ [6, 1, 7, 8, 5, 9, 14, 15, 16, 17, 18, 19, 20, 21, 22, 23, 24, 25, 26, 27, 28, 29, 30, 31, 32, 33, 34] (by decide +kernel) (by decide +kernel)
set_option maxRecDepth 20000 in
theorem gX12_bestSide_X12_isBale : GoodIn wsX12_bestSide (wsV RX12 178 RX12 yX12_isBale wsX12_isBale) := goodIn_app (goodIn_of _ (by decide +kernel)) ggX12_bestSide_X12_isBale
set_option maxRecDepth 20000 in
theorem ggX12_bestSide_X12_its : GoodIn wsX12_bestSide wsX12_its := goodIn_r _ [13, 1, 14, 15, 16, 17, 18, 19, 20, 21, 22, 23, 24, 25, 26, 27, 28, 29, 30, 31, 32, 33, 34] (by decide +kernel) (by decide +kernel)
set_option maxRecDepth 20000 in
theorem gX12_bestSide_X12_its : GoodIn wsX12_bestSide (wsV RX12 159 RX12 yX12_its wsX12_its) := goodIn_app (goodIn_of _ (by decide +kernel)) ggX12_bestSide_X12_its
theorem dX12_bestSide_0 : decode cX12_bestSide 0 = .ok (.aload_n 0, 1) := by decide +kernel
theorem dX12_bestSide_1 : decode cX12_bestSide 1 = .ok (.getfield 7, 3) := by decide +kernel
theorem dX12_bestSide_4 : decode cX12_bestSide 4 = .ok (.bipush 16, 2) := by decide +kernel
theorem dX12_bestSide_6 : decode cX12_bestSide 6 = .ok (.iaload, 1) := by decide +kernel
theorem dX12_bestSide_7 : decode cX12_bestSide 7 = .ok (.iconst 1, 1) := by decide +kernel
theorem dX12_bestSide_8 : decode cX12_bestSide 8 = .ok (.if_icmp .ne 21, 3) := by decide +kernel
theorem dX12_bestSide_11 : decode cX12_bestSide 11 = .ok (.aload_n 0, 1) := by decide +kernel
theorem dX12_bestSide_12 : decode cX12_bestSide 12 = .ok (.iload_n 1, 1) := by decide +kernel
theorem dX12_bestSide_13 : decode cX12_bestSide 13 = .ok (.invokevirtual 178, 3) := by decide +kernel
theorem dX12_bestSide_16 : decode cX12_bestSide 16 = .ok (.ifCond .eq 13, 3) := by decide +kernel
theorem dX12_bestSide_19 : decode cX12_bestSide 19 = .ok (.aload_n 0, 1) := by decide +kernel
theorem dX12_bestSide_20 : decode cX12_bestSide 20 = .ok (.iload_n 1, 1) := by decide +kernel
theorem dX12_bestSide_21 : decode cX12_bestSide 21 = .ok (.bipush 7, 2) := by decide +kernel
theorem dX12_bestSide_23 : decode cX12_bestSide 23 = .ok (.invokevirtual 159, 3) := by decide +kernel
theorem dX12_bestSide_26 : decode cX12_bestSide 26 = .ok (.goto 4, 3) := by decide +kernel
theorem dX12_bestSide_29 : decode cX12_bestSide 29 = .ok (.iconst (-1), 1) := by decide +kernel
theorem dX12_bestSide_30 : decode cX12_bestSide 30 = .ok (.ireturn, 1) := by decide +kernel
set_option maxRecDepth 20000 in
theorem ggX12_ladeBest_X12_its : GoodIn wsX12_ladeBest wsX12_its := goodIn_r _ [6, 1, 42, 43, 44, 45, 46, 47, 48, 49, 50, 51, 52, 53, 54, 55, 56, 57, 58, 59, 60, 61, 62] (by decide +kernel) (by decide +kernel)
set_option maxRecDepth 20000 in
theorem gX12_ladeBest_X12_its : GoodIn wsX12_ladeBest (wsV RX12 159 RX12 yX12_its wsX12_its) := goodIn_app (goodIn_of _ (by decide +kernel)) ggX12_ladeBest_X12_its
set_option maxRecDepth 20000 in
theorem ggX12_ladeBest_X12_lade : GoodIn wsX12_ladeBest wsX12_lade := goodIn_r _ [10, 1, 11, 12, 13, 5, 14, 15, 16, 17, 18, 19, 20, 21, 2, 3, 4, 6, 22, 23, 24, 25, 26, 27, 28, 29, 30, 31, 32, 33, 34, 35, 36, 37, 38, 39, 40, 41, 42, 43, 44, 45, 46, 47, 48, 49, 50, 51, 52, 53, 54, 55, 56, 57, 58, 59, 60, 61, 62] (by decide +kernel) (by decide +kernel)
set_option maxRecDepth 20000 in
theorem gX12_ladeBest_X12_lade : GoodIn wsX12_ladeBest (wsV RX12 208 RX12 yX12_lade wsX12_lade) := goodIn_app (goodIn_of _ (by decide +kernel)) ggX12_ladeBest_X12_lade
theorem dX12_ladeBest_0 : decode cX12_ladeBest 0 = .ok (.aload_n 0, 1) := by decide +kernel
theorem dX12_ladeBest_1 : decode cX12_ladeBest 1 = .ok (.getfield 7, 3) := by decide +kernel
theorem dX12_ladeBest_4 : decode cX12_ladeBest 4 = .ok (.bipush 16, 2) := by decide +kernel
theorem dX12_ladeBest_6 : decode cX12_ladeBest 6 = .ok (.iaload, 1) := by decide +kernel
theorem dX12_ladeBest_7 : decode cX12_ladeBest 7 = .ok (.ifCond .eq 13, 3) := by decide +kernel
theorem dX12_ladeBest_10 : decode cX12_ladeBest 10 = .ok (.aload_n 0, 1) := by decide +kernel
theorem dX12_ladeBest_11 : decode cX12_ladeBest 11 = .ok (.getfield 7, 3) := by decide +kernel
theorem dX12_ladeBest_14 : decode cX12_ladeBest 14 = .ok (.iconst 1, 1) := by decide +kernel
theorem dX12_ladeBest_15 : decode cX12_ladeBest 15 = .ok (.iaload, 1) := by decide +kernel
theorem dX12_ladeBest_16 : decode cX12_ladeBest 16 = .ok (.iconst 1, 1) := by decide +kernel
theorem dX12_ladeBest_17 : decode cX12_ladeBest 17 = .ok (.if_icmp .ne 5, 3) := by decide +kernel
theorem dX12_ladeBest_20 : decode cX12_ladeBest 20 = .ok (.iconst (-1), 1) := by decide +kernel
theorem dX12_ladeBest_21 : decode cX12_ladeBest 21 = .ok (.ireturn, 1) := by decide +kernel
theorem dX12_ladeBest_22 : decode cX12_ladeBest 22 = .ok (.iconst 0, 1) := by decide +kernel
theorem dX12_ladeBest_23 : decode cX12_ladeBest 23 = .ok (.istore_n 1, 1) := by decide +kernel
theorem dX12_ladeBest_24 : decode cX12_ladeBest 24 = .ok (.iconst 0, 1) := by decide +kernel
theorem dX12_ladeBest_25 : decode cX12_ladeBest 25 = .ok (.istore_n 2, 1) := by decide +kernel
theorem dX12_ladeBest_26 : decode cX12_ladeBest 26 = .ok (.iload_n 2, 1) := by decide +kernel
theorem dX12_ladeBest_27 : decode cX12_ladeBest 27 = .ok (.aload_n 0, 1) := by decide +kernel
theorem dX12_ladeBest_28 : decode cX12_ladeBest 28 = .ok (.getfield 7, 3) := by decide +kernel
theorem dX12_ladeBest_31 : decode cX12_ladeBest 31 = .ok (.iconst 4, 1) := by decide +kernel
theorem dX12_ladeBest_32 : decode cX12_ladeBest 32 = .ok (.iaload, 1) := by decide +kernel
theorem dX12_ladeBest_33 : decode cX12_ladeBest 33 = .ok (.if_icmp .ge 44, 3) := by decide +kernel
theorem dX12_ladeBest_36 : decode cX12_ladeBest 36 = .ok (.aload_n 0, 1) := by decide +kernel
theorem dX12_ladeBest_37 : decode cX12_ladeBest 37 = .ok (.iload_n 2, 1) := by decide +kernel
theorem dX12_ladeBest_38 : decode cX12_ladeBest 38 = .ok (.bipush 7, 2) := by decide +kernel
theorem dX12_ladeBest_40 : decode cX12_ladeBest 40 = .ok (.invokevirtual 159, 3) := by decide +kernel
theorem dX12_ladeBest_43 : decode cX12_ladeBest 43 = .ok (.iconst 2, 1) := by decide +kernel
theorem dX12_ladeBest_44 : decode cX12_ladeBest 44 = .ok (.if_icmp .ge 27, 3) := by decide +kernel
theorem dX12_ladeBest_47 : decode cX12_ladeBest 47 = .ok (.aload_n 0, 1) := by decide +kernel
theorem dX12_ladeBest_48 : decode cX12_ladeBest 48 = .ok (.iload_n 2, 1) := by decide +kernel
theorem dX12_ladeBest_49 : decode cX12_ladeBest 49 = .ok (.aload_n 0, 1) := by decide +kernel
theorem dX12_ladeBest_50 : decode cX12_ladeBest 50 = .ok (.iload_n 2, 1) := by decide +kernel
theorem dX12_ladeBest_51 : decode cX12_ladeBest 51 = .ok (.iconst 0, 1) := by decide +kernel
theorem dX12_ladeBest_52 : decode cX12_ladeBest 52 = .ok (.invokevirtual 159, 3) := by decide +kernel
theorem dX12_ladeBest_55 : decode cX12_ladeBest 55 = .ok (.aload_n 0, 1) := by decide +kernel
theorem dX12_ladeBest_56 : decode cX12_ladeBest 56 = .ok (.iload_n 2, 1) := by decide +kernel
theorem dX12_ladeBest_57 : decode cX12_ladeBest 57 = .ok (.bipush 7, 2) := by decide +kernel
theorem dX12_ladeBest_59 : decode cX12_ladeBest 59 = .ok (.invokevirtual 159, 3) := by decide +kernel
theorem dX12_ladeBest_62 : decode cX12_ladeBest 62 = .ok (.invokevirtual 208, 3) := by decide +kernel
theorem dX12_ladeBest_65 : decode cX12_ladeBest 65 = .ok (.ifCond .eq 6, 3) := by decide +kernel
theorem dX12_ladeBest_68 : decode cX12_ladeBest 68 = .ok (.iinc 1 1, 3) := by decide +kernel
theorem dX12_ladeBest_71 : decode cX12_ladeBest 71 = .ok (.iinc 2 1, 3) := by decide +kernel
theorem dX12_ladeBest_74 : decode cX12_ladeBest 74 = .ok (.goto (-48), 3) := by decide +kernel
theorem dX12_ladeBest_77 : decode cX12_ladeBest 77 = .ok (.iload_n 1, 1) := by decide +kernel
theorem dX12_ladeBest_78 : decode cX12_ladeBest 78 = .ok (.ireturn, 1) := by decide +kernel
set_option maxRecDepth 20000 in
theorem ggX12_sail_X12_tilt : GoodIn wsX12_sail wsX12_tilt := goodIn_r _ [6, 1, 7, 8, 9, 5, 10, 11, 12, 13, 14, 26, 27, 28, 29, 30, 31, 32, 33, 34, 35, 36, 37, 38, 39, 40, 41, 42, 43, 44, 45, 46] (by decide +kernel) (by decide +kernel)
set_option maxRecDepth 20000 in
theorem gX12_sail_X12_tilt : GoodIn wsX12_sail (wsV RX12 184 RX12 yX12_tilt wsX12_tilt) := goodIn_app (goodIn_of _ (by decide +kernel)) ggX12_sail_X12_tilt
set_option maxRecDepth 20000 in
theorem ggX12_sail_X12_weight : GoodIn wsX12_sail wsX12_weight := goodIn_r _ [18, 1, 7, 8, 9, 5, 10, 11, 12, 13, 14, 26, 27, 28, 29, 30, 31, 32, 33, 34, 35, 36, 37, 38, 39, 40, 41, 42, 43, 44, 45, 46] (by decide +kernel) (by decide +kernel)
set_option maxRecDepth 20000 in
theorem gX12_sail_X12_weight : GoodIn wsX12_sail (wsV RX12 187 RX12 yX12_weight wsX12_weight) := goodIn_app (goodIn_of _ (by decide +kernel)) ggX12_sail_X12_weight
set_option maxRecDepth 20000 in
theorem ggX12_sail_X12_bears : GoodIn wsX12_sail wsX12_bears := goodIn_r _ [22, 1, 23, 24, 5, 25, 26, 27, 28, 29, 30, 31, 32, 33, 34, 35, 36, 37, 38, 39, 40, 41, 42, 43, 44, 45, 46] (by decide +kernel) (by decide +kernel)
set_option maxRecDepth 20000 in
theorem gX12_sail_X12_bears : GoodIn wsX12_sail (wsV RX12 199 RX12 yX12_bears wsX12_bears) := goodIn_app (goodIn_of _ (by decide +kernel)) ggX12_sail_X12_bears
theorem dX12_sail_0 : decode cX12_sail 0 = .ok (.aload_n 0, 1) := by decide +kernel
theorem dX12_sail_1 : decode cX12_sail 1 = .ok (.getfield 7, 3) := by decide +kernel
theorem dX12_sail_4 : decode cX12_sail 4 = .ok (.iconst 1, 1) := by decide +kernel
theorem dX12_sail_5 : decode cX12_sail 5 = .ok (.iaload, 1) := by decide +kernel
theorem dX12_sail_6 : decode cX12_sail 6 = .ok (.iconst 1, 1) := by decide +kernel
theorem dX12_sail_7 : decode cX12_sail 7 = .ok (.if_icmp .eq 18, 3) := by decide +kernel
theorem dX12_sail_10 : decode cX12_sail 10 = .ok (.aload_n 0, 1) := by decide +kernel
theorem dX12_sail_11 : decode cX12_sail 11 = .ok (.aload_n 0, 1) := by decide +kernel
theorem dX12_sail_12 : decode cX12_sail 12 = .ok (.invokevirtual 184, 3) := by decide +kernel
theorem dX12_sail_15 : decode cX12_sail 15 = .ok (.aload_n 0, 1) := by decide +kernel
theorem dX12_sail_16 : decode cX12_sail 16 = .ok (.invokevirtual 187, 3) := by decide +kernel
theorem dX12_sail_19 : decode cX12_sail 19 = .ok (.invokevirtual 199, 3) := by decide +kernel
theorem dX12_sail_22 : decode cX12_sail 22 = .ok (.ifCond .ne 5, 3) := by decide +kernel
theorem dX12_sail_25 : decode cX12_sail 25 = .ok (.iconst 0, 1) := by decide +kernel
theorem dX12_sail_26 : decode cX12_sail 26 = .ok (.ireturn, 1) := by decide +kernel
theorem dX12_sail_27 : decode cX12_sail 27 = .ok (.aload_n 0, 1) := by decide +kernel
theorem dX12_sail_28 : decode cX12_sail 28 = .ok (.getfield 7, 3) := by decide +kernel
theorem dX12_sail_31 : decode cX12_sail 31 = .ok (.iconst 1, 1) := by decide +kernel
theorem dX12_sail_32 : decode cX12_sail 32 = .ok (.iconst 1, 1) := by decide +kernel
theorem dX12_sail_33 : decode cX12_sail 33 = .ok (.iastore, 1) := by decide +kernel
theorem dX12_sail_34 : decode cX12_sail 34 = .ok (.iconst 1, 1) := by decide +kernel
theorem dX12_sail_35 : decode cX12_sail 35 = .ok (.ireturn, 1) := by decide +kernel
set_option maxRecDepth 20000 in
theorem ggX12_board_X12_isIn : GoodIn wsX12_board wsX12_isIn := goodIn_r _ [5] (by decide +kernel) (by decide +kernel)
set_option maxRecDepth 20000 in
theorem gX12_board_X12_isIn : GoodIn wsX12_board (va_wsS RX12 114 yX12_isIn wsX12_isIn) := goodIn_app (goodIn_of _ (by decide +kernel)) ggX12_board_X12_isIn
set_option maxRecDepth 20000 in
theorem ggX12_board_X12_lies : GoodIn wsX12_board wsX12_lies := goodIn_r _ [9, 10, 11, 12, 4, 13, 1, 18, 19, 20, 21, 22, 23, 24, 25, 26, 27, 28, 29, 30, 31, 32, 33, 34, 35, 36, 37, 38] (by decide +kernel) (by decide +kernel)
set_option maxRecDepth 20000 in
theorem gX12_board_X12_lies : GoodIn wsX12_board (wsV RX12 181 RX12 yX12_lies wsX12_lies) := goodIn_app (goodIn_of _ (by decide +kernel)) ggX12_board_X12_lies
set_option maxRecDepth 20000 in
theorem ggX12_board_X12_value : GoodIn wsX12_board wsX12_value := goodIn_r _ [17, 10, 11, 12, 4, 13, 1, 18, 19, 20, 21, 22, 23, 24, 25, 26, 27, 28, 29, 30, 31, 32, 33, 34, 35, 36, 37, 38] (by decide +kernel) (by decide +kernel)
set_option maxRecDepth 20000 in
theorem gX12_board_X12_value : GoodIn wsX12_board (wsV RX12 196 RX12 yX12_value wsX12_value) := goodIn_app (goodIn_of _ (by decide +kernel)) ggX12_board_X12_value
theorem dX12_board_0 : decode cX12_board 0 = .ok (.iload_n 2, 1) := by decide +kernel
theorem dX12_board_1 : decode cX12_board 1 = .ok (.ifCond .lt 25, 3) := by decide +kernel
theorem dX12_board_4 : decode cX12_board 4 = .ok (.iload_n 2, 1) := by decide +kernel
theorem dX12_board_5 : decode cX12_board 5 = .ok (.iload_n 3, 1) := by decide +kernel
theorem dX12_board_6 : decode cX12_board 6 = .ok (.if_icmp .gt 20, 3) := by decide +kernel
theorem dX12_board_9 : decode cX12_board 9 = .ok (.iload_n 3, 1) := by decide +kernel
theorem dX12_board_10 : decode cX12_board 10 = .ok (.sipush 1000, 3) := by decide +kernel
theorem dX12_board_13 : decode cX12_board 13 = .ok (.if_icmp .gt 13, 3) := by decide +kernel
theorem dX12_board_16 : decode cX12_board 16 = .ok (.iload 4, 2) := by decide +kernel
theorem dX12_board_18 : decode cX12_board 18 = .ok (.iconst 0, 1) := by decide +kernel
theorem dX12_board_19 : decode cX12_board 19 = .ok (.iconst 2, 1) := by decide +kernel
theorem dX12_board_20 : decode cX12_board 20 = .ok (.invokestatic 114, 3) := by decide +kernel
theorem dX12_board_23 : decode cX12_board 23 = .ok (.ifCond .ne 5, 3) := by decide +kernel
theorem dX12_board_26 : decode cX12_board 26 = .ok (.iconst (-1), 1) := by decide +kernel
theorem dX12_board_27 : decode cX12_board 27 = .ok (.ireturn, 1) := by decide +kernel
theorem dX12_board_28 : decode cX12_board 28 = .ok (.iconst 0, 1) := by decide +kernel
theorem dX12_board_29 : decode cX12_board 29 = .ok (.istore 5, 2) := by decide +kernel
theorem dX12_board_31 : decode cX12_board 31 = .ok (.iconst 0, 1) := by decide +kernel
theorem dX12_board_32 : decode cX12_board 32 = .ok (.istore 6, 2) := by decide +kernel
theorem dX12_board_34 : decode cX12_board 34 = .ok (.iconst 0, 1) := by decide +kernel
theorem dX12_board_35 : decode cX12_board 35 = .ok (.istore 7, 2) := by decide +kernel
theorem dX12_board_37 : decode cX12_board 37 = .ok (.iload 7, 2) := by decide +kernel
theorem dX12_board_39 : decode cX12_board 39 = .ok (.aload_n 0, 1) := by decide +kernel
theorem dX12_board_40 : decode cX12_board 40 = .ok (.getfield 7, 3) := by decide +kernel
theorem dX12_board_43 : decode cX12_board 43 = .ok (.iconst 4, 1) := by decide +kernel
theorem dX12_board_44 : decode cX12_board 44 = .ok (.iaload, 1) := by decide +kernel
theorem dX12_board_45 : decode cX12_board 45 = .ok (.if_icmp .ge 78, 3) := by decide +kernel
theorem dX12_board_48 : decode cX12_board 48 = .ok (.aload_n 0, 1) := by decide +kernel
theorem dX12_board_49 : decode cX12_board 49 = .ok (.iload 7, 2) := by decide +kernel
theorem dX12_board_51 : decode cX12_board 51 = .ok (.invokevirtual 181, 3) := by decide +kernel
theorem dX12_board_54 : decode cX12_board 54 = .ok (.ifCond .ne 6, 3) := by decide +kernel
theorem dX12_board_57 : decode cX12_board 57 = .ok (.goto 60, 3) := by decide +kernel
theorem dX12_board_60 : decode cX12_board 60 = .ok (.iload_n 1, 1) := by decide +kernel
theorem dX12_board_61 : decode cX12_board 61 = .ok (.iload 7, 2) := by decide +kernel
theorem dX12_board_63 : decode cX12_board 63 = .ok (.ishr, 1) := by decide +kernel
theorem dX12_board_64 : decode cX12_board 64 = .ok (.iconst 1, 1) := by decide +kernel
theorem dX12_board_65 : decode cX12_board 65 = .ok (.iand, 1) := by decide +kernel
theorem dX12_board_66 : decode cX12_board 66 = .ok (.iconst 1, 1) := by decide +kernel
theorem dX12_board_67 : decode cX12_board 67 = .ok (.if_icmp .ne 7, 3) := by decide +kernel
theorem dX12_board_70 : decode cX12_board 70 = .ok (.iconst 1, 1) := by decide +kernel
theorem dX12_board_71 : decode cX12_board 71 = .ok (.goto 4, 3) := by decide +kernel
theorem dX12_board_74 : decode cX12_board 74 = .ok (.iconst 0, 1) := by decide +kernel
theorem dX12_board_75 : decode cX12_board 75 = .ok (.istore 8, 2) := by decide +kernel
theorem dX12_board_77 : decode cX12_board 77 = .ok (.iload 5, 2) := by decide +kernel
theorem dX12_board_79 : decode cX12_board 79 = .ok (.iload 8, 2) := by decide +kernel
theorem dX12_board_81 : decode cX12_board 81 = .ok (.ifCond .eq 12, 3) := by decide +kernel
theorem dX12_board_84 : decode cX12_board 84 = .ok (.aload_n 0, 1) := by decide +kernel
theorem dX12_board_85 : decode cX12_board 85 = .ok (.iload 7, 2) := by decide +kernel
theorem dX12_board_87 : decode cX12_board 87 = .ok (.invokevirtual 196, 3) := by decide +kernel
theorem dX12_board_90 : decode cX12_board 90 = .ok (.goto 4, 3) := by decide +kernel
theorem dX12_board_93 : decode cX12_board 93 = .ok (.iload_n 2, 1) := by decide +kernel
theorem dX12_board_94 : decode cX12_board 94 = .ok (.iadd, 1) := by decide +kernel
theorem dX12_board_95 : decode cX12_board 95 = .ok (.istore 5, 2) := by decide +kernel
theorem dX12_board_97 : decode cX12_board 97 = .ok (.iload 6, 2) := by decide +kernel
theorem dX12_board_99 : decode cX12_board 99 = .ok (.iload 8, 2) := by decide +kernel
theorem dX12_board_101 : decode cX12_board 101 = .ok (.ifCond .eq 12, 3) := by decide +kernel
theorem dX12_board_104 : decode cX12_board 104 = .ok (.aload_n 0, 1) := by decide +kernel
theorem dX12_board_105 : decode cX12_board 105 = .ok (.iload 7, 2) := by decide +kernel
theorem dX12_board_107 : decode cX12_board 107 = .ok (.invokevirtual 196, 3) := by decide +kernel
theorem dX12_board_110 : decode cX12_board 110 = .ok (.goto 4, 3) := by decide +kernel
theorem dX12_board_113 : decode cX12_board 113 = .ok (.iload_n 3, 1) := by decide +kernel
theorem dX12_board_114 : decode cX12_board 114 = .ok (.iadd, 1) := by decide +kernel
theorem dX12_board_115 : decode cX12_board 115 = .ok (.istore 6, 2) := by decide +kernel
theorem dX12_board_117 : decode cX12_board 117 = .ok (.iinc 7 1, 3) := by decide +kernel
theorem dX12_board_120 : decode cX12_board 120 = .ok (.goto (-83), 3) := by decide +kernel
theorem dX12_board_123 : decode cX12_board 123 = .ok (.iload 4, 2) := by decide +kernel
theorem dX12_board_125 : decode cX12_board 125 = .ok (.ifCond .ne 8, 3) := by decide +kernel
theorem dX12_board_128 : decode cX12_board 128 = .ok (.iload 5, 2) := by decide +kernel
theorem dX12_board_130 : decode cX12_board 130 = .ok (.goto 31, 3) := by decide +kernel
theorem dX12_board_133 : decode cX12_board 133 = .ok (.iload 4, 2) := by decide +kernel
theorem dX12_board_135 : decode cX12_board 135 = .ok (.iconst 1, 1) := by decide +kernel
theorem dX12_board_136 : decode cX12_board 136 = .ok (.if_icmp .ne 8, 3) := by decide +kernel
theorem dX12_board_139 : decode cX12_board 139 = .ok (.iload 6, 2) := by decide +kernel
theorem dX12_board_141 : decode cX12_board 141 = .ok (.goto 20, 3) := by decide +kernel
theorem dX12_board_144 : decode cX12_board 144 = .ok (.iload 5, 2) := by decide +kernel
theorem dX12_board_146 : decode cX12_board 146 = .ok (.aload_n 0, 1) := by decide +kernel
theorem dX12_board_147 : decode cX12_board 147 = .ok (.getfield 7, 3) := by decide +kernel
theorem dX12_board_150 : decode cX12_board 150 = .ok (.bipush 10, 2) := by decide +kernel
theorem dX12_board_152 : decode cX12_board 152 = .ok (.iaload, 1) := by decide +kernel
theorem dX12_board_153 : decode cX12_board 153 = .ok (.if_icmp .le 7, 3) := by decide +kernel
theorem dX12_board_156 : decode cX12_board 156 = .ok (.iconst 1, 1) := by decide +kernel
theorem dX12_board_157 : decode cX12_board 157 = .ok (.goto 4, 3) := by decide +kernel
theorem dX12_board_160 : decode cX12_board 160 = .ok (.iconst 0, 1) := by decide +kernel
theorem dX12_board_161 : decode cX12_board 161 = .ok (.ireturn, 1) := by decide +kernel
set_option maxRecDepth 20000 in
theorem ggX12_loan_X12_isCitizen : GoodIn wsX12_loan wsX12_isCitizen := goodIn_r _ [6, 1, 7, 8, 5, 9, 14, 15, 16, 17, 18, 19, 20, 21, 22, 23, 24, 25, 26, 27, 28, 29, 30, 31, 32, 33, 34] (by decide +kernel) (by decide +kernel)
set_option maxRecDepth 20000 in
theorem gX12_loan_X12_isCitizen : GoodIn wsX12_loan (wsV RX12 165 RX12 yX12_isCitizen wsX12_isCitizen) := goodIn_app (goodIn_of _ (by decide +kernel)) ggX12_loan_X12_isCitizen
set_option maxRecDepth 20000 in
theorem ggX12_loan_X12_isIn : GoodIn wsX12_loan wsX12_isIn := goodIn_r _ [9] (by decide +kernel) (by decide +kernel)
set_option maxRecDepth 20000 in
theorem gX12_loan_X12_isIn : GoodIn wsX12_loan (va_wsS RX12 114 yX12_isIn wsX12_isIn) := goodIn_app (goodIn_of _ (by decide +kernel)) ggX12_loan_X12_isIn
set_option maxRecDepth 20000 in
theorem ggX12_loan_X12_adds : GoodIn wsX12_loan wsX12_adds := goodIn_r _ [13, 1, 14, 15, 16, 17, 18, 19, 20, 21, 22, 23, 24, 25, 26, 27, 28, 29, 30, 31, 32, 33, 34] (by decide +kernel) (by decide +kernel)
set_option maxRecDepth 20000 in
theorem gX12_loan_X12_adds : GoodIn wsX12_loan (wsV RX12 171 RX12 yX12_adds wsX12_adds) := goodIn_app (goodIn_of _ (by decide +kernel)) ggX12_loan_X12_adds
theorem dX12_loan_0 : decode cX12_loan 0 = .ok (.aload_n 0, 1) := by decide +kernel
theorem dX12_loan_1 : decode cX12_loan 1 = .ok (.getfield 7, 3) := by decide +kernel
theorem dX12_loan_4 : decode cX12_loan 4 = .ok (.iconst 1, 1) := by decide +kernel
theorem dX12_loan_5 : decode cX12_loan 5 = .ok (.iaload, 1) := by decide +kernel
theorem dX12_loan_6 : decode cX12_loan 6 = .ok (.iconst 1, 1) := by decide +kernel
theorem dX12_loan_7 : decode cX12_loan 7 = .ok (.if_icmp .eq 57, 3) := by decide +kernel
theorem dX12_loan_10 : decode cX12_loan 10 = .ok (.aload_n 0, 1) := by decide +kernel
theorem dX12_loan_11 : decode cX12_loan 11 = .ok (.getfield 7, 3) := by decide +kernel
theorem dX12_loan_14 : decode cX12_loan 14 = .ok (.iconst 5, 1) := by decide +kernel
theorem dX12_loan_15 : decode cX12_loan 15 = .ok (.iaload, 1) := by decide +kernel
theorem dX12_loan_16 : decode cX12_loan 16 = .ok (.bipush 20, 2) := by decide +kernel
theorem dX12_loan_18 : decode cX12_loan 18 = .ok (.if_icmp .eq 46, 3) := by decide +kernel
theorem dX12_loan_21 : decode cX12_loan 21 = .ok (.aload_n 0, 1) := by decide +kernel
theorem dX12_loan_22 : decode cX12_loan 22 = .ok (.iload_n 1, 1) := by decide +kernel
theorem dX12_loan_23 : decode cX12_loan 23 = .ok (.invokevirtual 165, 3) := by decide +kernel
theorem dX12_loan_26 : decode cX12_loan 26 = .ok (.ifCond .eq 38, 3) := by decide +kernel
theorem dX12_loan_29 : decode cX12_loan 29 = .ok (.aload_n 0, 1) := by decide +kernel
theorem dX12_loan_30 : decode cX12_loan 30 = .ok (.iload_n 2, 1) := by decide +kernel
theorem dX12_loan_31 : decode cX12_loan 31 = .ok (.invokevirtual 165, 3) := by decide +kernel
theorem dX12_loan_34 : decode cX12_loan 34 = .ok (.ifCond .eq 30, 3) := by decide +kernel
theorem dX12_loan_37 : decode cX12_loan 37 = .ok (.iload_n 1, 1) := by decide +kernel
theorem dX12_loan_38 : decode cX12_loan 38 = .ok (.iload_n 2, 1) := by decide +kernel
theorem dX12_loan_39 : decode cX12_loan 39 = .ok (.if_icmp .eq 25, 3) := by decide +kernel
theorem dX12_loan_42 : decode cX12_loan 42 = .ok (.iload_n 3, 1) := by decide +kernel
theorem dX12_loan_43 : decode cX12_loan 43 = .ok (.iconst 1, 1) := by decide +kernel
theorem dX12_loan_44 : decode cX12_loan 44 = .ok (.sipush 10000, 3) := by decide +kernel
theorem dX12_loan_47 : decode cX12_loan 47 = .ok (.invokestatic 114, 3) := by decide +kernel
theorem dX12_loan_50 : decode cX12_loan 50 = .ok (.ifCond .eq 14, 3) := by decide +kernel
theorem dX12_loan_53 : decode cX12_loan 53 = .ok (.iload 4, 2) := by decide +kernel
theorem dX12_loan_55 : decode cX12_loan 55 = .ok (.iconst 0, 1) := by decide +kernel
theorem dX12_loan_56 : decode cX12_loan 56 = .ok (.bipush 100, 2) := by decide +kernel
theorem dX12_loan_58 : decode cX12_loan 58 = .ok (.invokestatic 114, 3) := by decide +kernel
theorem dX12_loan_61 : decode cX12_loan 61 = .ok (.ifCond .ne 5, 3) := by decide +kernel
theorem dX12_loan_64 : decode cX12_loan 64 = .ok (.iconst (-1), 1) := by decide +kernel
theorem dX12_loan_65 : decode cX12_loan 65 = .ok (.ireturn, 1) := by decide +kernel
theorem dX12_loan_66 : decode cX12_loan 66 = .ok (.sipush 200, 3) := by decide +kernel
theorem dX12_loan_69 : decode cX12_loan 69 = .ok (.iconst 4, 1) := by decide +kernel
theorem dX12_loan_70 : decode cX12_loan 70 = .ok (.aload_n 0, 1) := by decide +kernel
theorem dX12_loan_71 : decode cX12_loan 71 = .ok (.getfield 7, 3) := by decide +kernel
theorem dX12_loan_74 : decode cX12_loan 74 = .ok (.iconst 5, 1) := by decide +kernel
theorem dX12_loan_75 : decode cX12_loan 75 = .ok (.iaload, 1) := by decide +kernel
theorem dX12_loan_76 : decode cX12_loan 76 = .ok (.imul, 1) := by decide +kernel
theorem dX12_loan_77 : decode cX12_loan 77 = .ok (.iadd, 1) := by decide +kernel
theorem dX12_loan_78 : decode cX12_loan 78 = .ok (.istore 5, 2) := by decide +kernel
theorem dX12_loan_80 : decode cX12_loan 80 = .ok (.aload_n 0, 1) := by decide +kernel
theorem dX12_loan_81 : decode cX12_loan 81 = .ok (.getfield 7, 3) := by decide +kernel
theorem dX12_loan_84 : decode cX12_loan 84 = .ok (.iload 5, 2) := by decide +kernel
theorem dX12_loan_86 : decode cX12_loan 86 = .ok (.iload_n 1, 1) := by decide +kernel
theorem dX12_loan_87 : decode cX12_loan 87 = .ok (.iastore, 1) := by decide +kernel
theorem dX12_loan_88 : decode cX12_loan 88 = .ok (.aload_n 0, 1) := by decide +kernel
theorem dX12_loan_89 : decode cX12_loan 89 = .ok (.getfield 7, 3) := by decide +kernel
theorem dX12_loan_92 : decode cX12_loan 92 = .ok (.iload 5, 2) := by decide +kernel
theorem dX12_loan_94 : decode cX12_loan 94 = .ok (.iconst 1, 1) := by decide +kernel
theorem dX12_loan_95 : decode cX12_loan 95 = .ok (.iadd, 1) := by decide +kernel
theorem dX12_loan_96 : decode cX12_loan 96 = .ok (.iload_n 2, 1) := by decide +kernel
theorem dX12_loan_97 : decode cX12_loan 97 = .ok (.iastore, 1) := by decide +kernel
theorem dX12_loan_98 : decode cX12_loan 98 = .ok (.aload_n 0, 1) := by decide +kernel
theorem dX12_loan_99 : decode cX12_loan 99 = .ok (.getfield 7, 3) := by decide +kernel
theorem dX12_loan_102 : decode cX12_loan 102 = .ok (.iload 5, 2) := by decide +kernel
theorem dX12_loan_104 : decode cX12_loan 104 = .ok (.iconst 2, 1) := by decide +kernel
theorem dX12_loan_105 : decode cX12_loan 105 = .ok (.iadd, 1) := by decide +kernel
theorem dX12_loan_106 : decode cX12_loan 106 = .ok (.iload_n 3, 1) := by decide +kernel
theorem dX12_loan_107 : decode cX12_loan 107 = .ok (.iastore, 1) := by decide +kernel
theorem dX12_loan_108 : decode cX12_loan 108 = .ok (.aload_n 0, 1) := by decide +kernel
theorem dX12_loan_109 : decode cX12_loan 109 = .ok (.getfield 7, 3) := by decide +kernel
theorem dX12_loan_112 : decode cX12_loan 112 = .ok (.iload 5, 2) := by decide +kernel
theorem dX12_loan_114 : decode cX12_loan 114 = .ok (.iconst 3, 1) := by decide +kernel
theorem dX12_loan_115 : decode cX12_loan 115 = .ok (.iadd, 1) := by decide +kernel
theorem dX12_loan_116 : decode cX12_loan 116 = .ok (.iload 4, 2) := by decide +kernel
theorem dX12_loan_118 : decode cX12_loan 118 = .ok (.iastore, 1) := by decide +kernel
theorem dX12_loan_119 : decode cX12_loan 119 = .ok (.aload_n 0, 1) := by decide +kernel
theorem dX12_loan_120 : decode cX12_loan 120 = .ok (.iload_n 1, 1) := by decide +kernel
theorem dX12_loan_121 : decode cX12_loan 121 = .ok (.iconst 4, 1) := by decide +kernel
theorem dX12_loan_122 : decode cX12_loan 122 = .ok (.iload_n 3, 1) := by decide +kernel
theorem dX12_loan_123 : decode cX12_loan 123 = .ok (.ineg, 1) := by decide +kernel
theorem dX12_loan_124 : decode cX12_loan 124 = .ok (.invokevirtual 171, 3) := by decide +kernel
theorem dX12_loan_127 : decode cX12_loan 127 = .ok (.aload_n 0, 1) := by decide +kernel
theorem dX12_loan_128 : decode cX12_loan 128 = .ok (.iload_n 2, 1) := by decide +kernel
theorem dX12_loan_129 : decode cX12_loan 129 = .ok (.iconst 4, 1) := by decide +kernel
theorem dX12_loan_130 : decode cX12_loan 130 = .ok (.iload_n 3, 1) := by decide +kernel
theorem dX12_loan_131 : decode cX12_loan 131 = .ok (.invokevirtual 171, 3) := by decide +kernel
theorem dX12_loan_134 : decode cX12_loan 134 = .ok (.aload_n 0, 1) := by decide +kernel
theorem dX12_loan_135 : decode cX12_loan 135 = .ok (.getfield 7, 3) := by decide +kernel
theorem dX12_loan_138 : decode cX12_loan 138 = .ok (.iconst 5, 1) := by decide +kernel
theorem dX12_loan_139 : decode cX12_loan 139 = .ok (.dup2, 1) := by decide +kernel
theorem dX12_loan_140 : decode cX12_loan 140 = .ok (.iaload, 1) := by decide +kernel
theorem dX12_loan_141 : decode cX12_loan 141 = .ok (.iconst 1, 1) := by decide +kernel
theorem dX12_loan_142 : decode cX12_loan 142 = .ok (.iadd, 1) := by decide +kernel
theorem dX12_loan_143 : decode cX12_loan 143 = .ok (.iastore, 1) := by decide +kernel
theorem dX12_loan_144 : decode cX12_loan 144 = .ok (.aload_n 0, 1) := by decide +kernel
theorem dX12_loan_145 : decode cX12_loan 145 = .ok (.getfield 7, 3) := by decide +kernel
theorem dX12_loan_148 : decode cX12_loan 148 = .ok (.iconst 5, 1) := by decide +kernel
theorem dX12_loan_149 : decode cX12_loan 149 = .ok (.iaload, 1) := by decide +kernel
theorem dX12_loan_150 : decode cX12_loan 150 = .ok (.iconst 1, 1) := by decide +kernel
theorem dX12_loan_151 : decode cX12_loan 151 = .ok (.isub, 1) := by decide +kernel
theorem dX12_loan_152 : decode cX12_loan 152 = .ok (.ireturn, 1) := by decide +kernel
set_option maxRecDepth 20000 in
theorem ggX12_comes_X12_its : GoodIn wsX12_comes wsX12_its := goodIn_r _ [6, 1, 19, 20, 21, 22, 23, 24, 25, 26, 27, 28, 29, 30, 31, 32, 33, 34, 35, 36, 37, 38, 39] (by decide +kernel) (by decide +kernel)
set_option maxRecDepth 20000 in
theorem gX12_comes_X12_its : GoodIn wsX12_comes (wsV RX12 159 RX12 yX12_its wsX12_its) := goodIn_app (goodIn_of _ (by decide +kernel)) ggX12_comes_X12_its
set_option maxRecDepth 20000 in
theorem ggX12_comes_X12_value : GoodIn wsX12_comes wsX12_value := goodIn_r _ [10, 2, 3, 4, 5, 6, 1, 19, 20, 21, 22, 23, 24, 25, 26, 27, 28, 29, 30, 31, 32, 33, 34, 35, 36, 37, 38, 39] (by decide +kernel) (by decide +kernel)
set_option maxRecDepth 20000 in
theorem gX12_comes_X12_value : GoodIn wsX12_comes (wsV RX12 196 RX12 yX12_value wsX12_value) := goodIn_app (goodIn_of _ (by decide +kernel)) ggX12_comes_X12_value
set_option maxRecDepth 20000 in
theorem ggX12_comes_X12_room : GoodIn wsX12_comes wsX12_room := goodIn_r _ [14, 2, 3, 4, 5, 6, 1, 19, 20, 21, 22, 23, 24, 25, 26, 27, 28, 29, 30, 31, 32, 33, 34, 35, 36, 37, 38, 39] (by decide +kernel) (by decide +kernel)
set_option maxRecDepth 20000 in
theorem gX12_comes_X12_room : GoodIn wsX12_comes (wsV RX12 162 RX12 yX12_room wsX12_room) := goodIn_app (goodIn_of _ (by decide +kernel)) ggX12_comes_X12_room
set_option maxRecDepth 20000 in
theorem ggX12_comes_X12_adds : GoodIn wsX12_comes wsX12_adds := goodIn_r _ [18, 1, 19, 20, 21, 22, 23, 24, 25, 26, 27, 28, 29, 30, 31, 32, 33, 34, 35, 36, 37, 38, 39] (by decide +kernel) (by decide +kernel)
set_option maxRecDepth 20000 in
theorem gX12_comes_X12_adds : GoodIn wsX12_comes (wsV RX12 171 RX12 yX12_adds wsX12_adds) := goodIn_app (goodIn_of _ (by decide +kernel)) ggX12_comes_X12_adds
theorem dX12_comes_0 : decode cX12_comes 0 = .ok (.aload_n 0, 1) := by decide +kernel
theorem dX12_comes_1 : decode cX12_comes 1 = .ok (.iload_n 1, 1) := by decide +kernel
theorem dX12_comes_2 : decode cX12_comes 2 = .ok (.iconst 0, 1) := by decide +kernel
theorem dX12_comes_3 : decode cX12_comes 3 = .ok (.invokevirtual 159, 3) := by decide +kernel
theorem dX12_comes_6 : decode cX12_comes 6 = .ok (.istore 4, 2) := by decide +kernel
theorem dX12_comes_8 : decode cX12_comes 8 = .ok (.aload_n 0, 1) := by decide +kernel
theorem dX12_comes_9 : decode cX12_comes 9 = .ok (.iload_n 1, 1) := by decide +kernel
theorem dX12_comes_10 : decode cX12_comes 10 = .ok (.iconst 5, 1) := by decide +kernel
theorem dX12_comes_11 : decode cX12_comes 11 = .ok (.invokevirtual 159, 3) := by decide +kernel
theorem dX12_comes_14 : decode cX12_comes 14 = .ok (.istore 5, 2) := by decide +kernel
theorem dX12_comes_16 : decode cX12_comes 16 = .ok (.aload_n 0, 1) := by decide +kernel
theorem dX12_comes_17 : decode cX12_comes 17 = .ok (.iload_n 1, 1) := by decide +kernel
theorem dX12_comes_18 : decode cX12_comes 18 = .ok (.invokevirtual 196, 3) := by decide +kernel
theorem dX12_comes_21 : decode cX12_comes 21 = .ok (.iload_n 2, 1) := by decide +kernel
theorem dX12_comes_22 : decode cX12_comes 22 = .ok (.imul, 1) := by decide +kernel
theorem dX12_comes_23 : decode cX12_comes 23 = .ok (.bipush 100, 2) := by decide +kernel
theorem dX12_comes_25 : decode cX12_comes 25 = .ok (.idiv, 1) := by decide +kernel
theorem dX12_comes_26 : decode cX12_comes 26 = .ok (.istore 6, 2) := by decide +kernel
theorem dX12_comes_28 : decode cX12_comes 28 = .ok (.iload 6, 2) := by decide +kernel
theorem dX12_comes_30 : decode cX12_comes 30 = .ok (.bipush 10, 2) := by decide +kernel
theorem dX12_comes_32 : decode cX12_comes 32 = .ok (.idiv, 1) := by decide +kernel
theorem dX12_comes_33 : decode cX12_comes 33 = .ok (.istore 7, 2) := by decide +kernel
theorem dX12_comes_35 : decode cX12_comes 35 = .ok (.iload 5, 2) := by decide +kernel
theorem dX12_comes_37 : decode cX12_comes 37 = .ok (.iload 4, 2) := by decide +kernel
theorem dX12_comes_39 : decode cX12_comes 39 = .ok (.if_icmp .ne 7, 3) := by decide +kernel
theorem dX12_comes_42 : decode cX12_comes 42 = .ok (.iconst 0, 1) := by decide +kernel
theorem dX12_comes_43 : decode cX12_comes 43 = .ok (.goto 16, 3) := by decide +kernel
theorem dX12_comes_46 : decode cX12_comes 46 = .ok (.aload_n 0, 1) := by decide +kernel
theorem dX12_comes_47 : decode cX12_comes 47 = .ok (.getfield 7, 3) := by decide +kernel
theorem dX12_comes_50 : decode cX12_comes 50 = .ok (.bipush 11, 2) := by decide +kernel
theorem dX12_comes_52 : decode cX12_comes 52 = .ok (.iaload, 1) := by decide +kernel
theorem dX12_comes_53 : decode cX12_comes 53 = .ok (.aload_n 0, 1) := by decide +kernel
theorem dX12_comes_54 : decode cX12_comes 54 = .ok (.iload_n 1, 1) := by decide +kernel
theorem dX12_comes_55 : decode cX12_comes 55 = .ok (.invokevirtual 162, 3) := by decide +kernel
theorem dX12_comes_58 : decode cX12_comes 58 = .ok (.imul, 1) := by decide +kernel
theorem dX12_comes_59 : decode cX12_comes 59 = .ok (.istore 8, 2) := by decide +kernel
theorem dX12_comes_61 : decode cX12_comes 61 = .ok (.iload 8, 2) := by decide +kernel
theorem dX12_comes_63 : decode cX12_comes 63 = .ok (.iload 6, 2) := by decide +kernel
theorem dX12_comes_65 : decode cX12_comes 65 = .ok (.iload 7, 2) := by decide +kernel
theorem dX12_comes_67 : decode cX12_comes 67 = .ok (.isub, 1) := by decide +kernel
theorem dX12_comes_68 : decode cX12_comes 68 = .ok (.if_icmp .le 10, 3) := by decide +kernel
theorem dX12_comes_71 : decode cX12_comes 71 = .ok (.iload 6, 2) := by decide +kernel
theorem dX12_comes_73 : decode cX12_comes 73 = .ok (.iload 7, 2) := by decide +kernel
theorem dX12_comes_75 : decode cX12_comes 75 = .ok (.isub, 1) := by decide +kernel
theorem dX12_comes_76 : decode cX12_comes 76 = .ok (.istore 8, 2) := by decide +kernel
theorem dX12_comes_78 : decode cX12_comes 78 = .ok (.aload_n 0, 1) := by decide +kernel
theorem dX12_comes_79 : decode cX12_comes 79 = .ok (.iload 4, 2) := by decide +kernel
theorem dX12_comes_81 : decode cX12_comes 81 = .ok (.iconst 5, 1) := by decide +kernel
theorem dX12_comes_82 : decode cX12_comes 82 = .ok (.iload 6, 2) := by decide +kernel
theorem dX12_comes_84 : decode cX12_comes 84 = .ok (.invokevirtual 171, 3) := by decide +kernel
theorem dX12_comes_87 : decode cX12_comes 87 = .ok (.aload_n 0, 1) := by decide +kernel
theorem dX12_comes_88 : decode cX12_comes 88 = .ok (.iload 4, 2) := by decide +kernel
theorem dX12_comes_90 : decode cX12_comes 90 = .ok (.iconst 4, 1) := by decide +kernel
theorem dX12_comes_91 : decode cX12_comes 91 = .ok (.iload 6, 2) := by decide +kernel
theorem dX12_comes_93 : decode cX12_comes 93 = .ok (.iload 7, 2) := by decide +kernel
theorem dX12_comes_95 : decode cX12_comes 95 = .ok (.isub, 1) := by decide +kernel
theorem dX12_comes_96 : decode cX12_comes 96 = .ok (.iload 8, 2) := by decide +kernel
theorem dX12_comes_98 : decode cX12_comes 98 = .ok (.isub, 1) := by decide +kernel
theorem dX12_comes_99 : decode cX12_comes 99 = .ok (.invokevirtual 171, 3) := by decide +kernel
theorem dX12_comes_102 : decode cX12_comes 102 = .ok (.aload_n 0, 1) := by decide +kernel
theorem dX12_comes_103 : decode cX12_comes 103 = .ok (.iload 5, 2) := by decide +kernel
theorem dX12_comes_105 : decode cX12_comes 105 = .ok (.iconst 4, 1) := by decide +kernel
theorem dX12_comes_106 : decode cX12_comes 106 = .ok (.iload 8, 2) := by decide +kernel
theorem dX12_comes_108 : decode cX12_comes 108 = .ok (.invokevirtual 171, 3) := by decide +kernel
theorem dX12_comes_111 : decode cX12_comes 111 = .ok (.aload_n 0, 1) := by decide +kernel
theorem dX12_comes_112 : decode cX12_comes 112 = .ok (.iload 5, 2) := by decide +kernel
theorem dX12_comes_114 : decode cX12_comes 114 = .ok (.bipush 6, 2) := by decide +kernel
theorem dX12_comes_116 : decode cX12_comes 116 = .ok (.iload 8, 2) := by decide +kernel
theorem dX12_comes_118 : decode cX12_comes 118 = .ok (.invokevirtual 171, 3) := by decide +kernel
theorem dX12_comes_121 : decode cX12_comes 121 = .ok (.aload_n 0, 1) := by decide +kernel
theorem dX12_comes_122 : decode cX12_comes 122 = .ok (.getfield 7, 3) := by decide +kernel
theorem dX12_comes_125 : decode cX12_comes 125 = .ok (.bipush 15, 2) := by decide +kernel
theorem dX12_comes_127 : decode cX12_comes 127 = .ok (.dup2, 1) := by decide +kernel
theorem dX12_comes_128 : decode cX12_comes 128 = .ok (.iaload, 1) := by decide +kernel
theorem dX12_comes_129 : decode cX12_comes 129 = .ok (.iload 7, 2) := by decide +kernel
theorem dX12_comes_131 : decode cX12_comes 131 = .ok (.iadd, 1) := by decide +kernel
theorem dX12_comes_132 : decode cX12_comes 132 = .ok (.iastore, 1) := by decide +kernel
theorem dX12_comes_133 : decode cX12_comes 133 = .ok (.aload_n 0, 1) := by decide +kernel
theorem dX12_comes_134 : decode cX12_comes 134 = .ok (.getfield 7, 3) := by decide +kernel
theorem dX12_comes_137 : decode cX12_comes 137 = .ok (.iload_n 3, 1) := by decide +kernel
theorem dX12_comes_138 : decode cX12_comes 138 = .ok (.iconst 5, 1) := by decide +kernel
theorem dX12_comes_139 : decode cX12_comes 139 = .ok (.iadd, 1) := by decide +kernel
theorem dX12_comes_140 : decode cX12_comes 140 = .ok (.dup2, 1) := by decide +kernel
theorem dX12_comes_141 : decode cX12_comes 141 = .ok (.iaload, 1) := by decide +kernel
theorem dX12_comes_142 : decode cX12_comes 142 = .ok (.iload 6, 2) := by decide +kernel
theorem dX12_comes_144 : decode cX12_comes 144 = .ok (.iadd, 1) := by decide +kernel
theorem dX12_comes_145 : decode cX12_comes 145 = .ok (.iastore, 1) := by decide +kernel
theorem dX12_comes_146 : decode cX12_comes 146 = .ok (.aload_n 0, 1) := by decide +kernel
theorem dX12_comes_147 : decode cX12_comes 147 = .ok (.getfield 7, 3) := by decide +kernel
theorem dX12_comes_150 : decode cX12_comes 150 = .ok (.iload_n 3, 1) := by decide +kernel
theorem dX12_comes_151 : decode cX12_comes 151 = .ok (.bipush 6, 2) := by decide +kernel
theorem dX12_comes_153 : decode cX12_comes 153 = .ok (.iadd, 1) := by decide +kernel
theorem dX12_comes_154 : decode cX12_comes 154 = .ok (.dup2, 1) := by decide +kernel
theorem dX12_comes_155 : decode cX12_comes 155 = .ok (.iaload, 1) := by decide +kernel
theorem dX12_comes_156 : decode cX12_comes 156 = .ok (.iload 7, 2) := by decide +kernel
theorem dX12_comes_158 : decode cX12_comes 158 = .ok (.iadd, 1) := by decide +kernel
theorem dX12_comes_159 : decode cX12_comes 159 = .ok (.iastore, 1) := by decide +kernel
theorem dX12_comes_160 : decode cX12_comes 160 = .ok (.aload_n 0, 1) := by decide +kernel
theorem dX12_comes_161 : decode cX12_comes 161 = .ok (.getfield 7, 3) := by decide +kernel
theorem dX12_comes_164 : decode cX12_comes 164 = .ok (.iload_n 3, 1) := by decide +kernel
theorem dX12_comes_165 : decode cX12_comes 165 = .ok (.bipush 7, 2) := by decide +kernel
theorem dX12_comes_167 : decode cX12_comes 167 = .ok (.iadd, 1) := by decide +kernel
theorem dX12_comes_168 : decode cX12_comes 168 = .ok (.dup2, 1) := by decide +kernel
theorem dX12_comes_169 : decode cX12_comes 169 = .ok (.iaload, 1) := by decide +kernel
theorem dX12_comes_170 : decode cX12_comes 170 = .ok (.iload 8, 2) := by decide +kernel
theorem dX12_comes_172 : decode cX12_comes 172 = .ok (.iadd, 1) := by decide +kernel
theorem dX12_comes_173 : decode cX12_comes 173 = .ok (.iastore, 1) := by decide +kernel
theorem dX12_comes_174 : decode cX12_comes 174 = .ok (.return_, 1) := by decide +kernel
set_option maxRecDepth 20000 in
theorem ggX12_paysBack_X12_adds : GoodIn wsX12_paysBack wsX12_adds := goodIn_r _ [6, 1, 7, 8, 9, 10, 11, 12, 13, 14, 15, 16, 17, 18, 19, 20, 21, 22, 23, 24, 25, 26, 27] (by decide +kernel) (by decide +kernel)
set_option maxRecDepth 20000 in
theorem gX12_paysBack_X12_adds : GoodIn wsX12_paysBack (wsV RX12 171 RX12 yX12_adds wsX12_adds) := goodIn_app (goodIn_of _ (by decide +kernel)) ggX12_paysBack_X12_adds
theorem dX12_paysBack_0 : decode cX12_paysBack 0 = .ok (.sipush 200, 3) := by decide +kernel
theorem dX12_paysBack_3 : decode cX12_paysBack 3 = .ok (.iconst 4, 1) := by decide +kernel
theorem dX12_paysBack_4 : decode cX12_paysBack 4 = .ok (.iload_n 1, 1) := by decide +kernel
theorem dX12_paysBack_5 : decode cX12_paysBack 5 = .ok (.imul, 1) := by decide +kernel
theorem dX12_paysBack_6 : decode cX12_paysBack 6 = .ok (.iadd, 1) := by decide +kernel
theorem dX12_paysBack_7 : decode cX12_paysBack 7 = .ok (.istore_n 2, 1) := by decide +kernel
theorem dX12_paysBack_8 : decode cX12_paysBack 8 = .ok (.aload_n 0, 1) := by decide +kernel
theorem dX12_paysBack_9 : decode cX12_paysBack 9 = .ok (.getfield 7, 3) := by decide +kernel
theorem dX12_paysBack_12 : decode cX12_paysBack 12 = .ok (.iload_n 2, 1) := by decide +kernel
theorem dX12_paysBack_13 : decode cX12_paysBack 13 = .ok (.iconst 2, 1) := by decide +kernel
theorem dX12_paysBack_14 : decode cX12_paysBack 14 = .ok (.iadd, 1) := by decide +kernel
theorem dX12_paysBack_15 : decode cX12_paysBack 15 = .ok (.iaload, 1) := by decide +kernel
theorem dX12_paysBack_16 : decode cX12_paysBack 16 = .ok (.aload_n 0, 1) := by decide +kernel
theorem dX12_paysBack_17 : decode cX12_paysBack 17 = .ok (.getfield 7, 3) := by decide +kernel
theorem dX12_paysBack_20 : decode cX12_paysBack 20 = .ok (.iload_n 2, 1) := by decide +kernel
theorem dX12_paysBack_21 : decode cX12_paysBack 21 = .ok (.iconst 2, 1) := by decide +kernel
theorem dX12_paysBack_22 : decode cX12_paysBack 22 = .ok (.iadd, 1) := by decide +kernel
theorem dX12_paysBack_23 : decode cX12_paysBack 23 = .ok (.iaload, 1) := by decide +kernel
theorem dX12_paysBack_24 : decode cX12_paysBack 24 = .ok (.aload_n 0, 1) := by decide +kernel
theorem dX12_paysBack_25 : decode cX12_paysBack 25 = .ok (.getfield 7, 3) := by decide +kernel
theorem dX12_paysBack_28 : decode cX12_paysBack 28 = .ok (.iload_n 2, 1) := by decide +kernel
theorem dX12_paysBack_29 : decode cX12_paysBack 29 = .ok (.iconst 3, 1) := by decide +kernel
theorem dX12_paysBack_30 : decode cX12_paysBack 30 = .ok (.iadd, 1) := by decide +kernel
theorem dX12_paysBack_31 : decode cX12_paysBack 31 = .ok (.iaload, 1) := by decide +kernel
theorem dX12_paysBack_32 : decode cX12_paysBack 32 = .ok (.imul, 1) := by decide +kernel
theorem dX12_paysBack_33 : decode cX12_paysBack 33 = .ok (.bipush 100, 2) := by decide +kernel
theorem dX12_paysBack_35 : decode cX12_paysBack 35 = .ok (.idiv, 1) := by decide +kernel
theorem dX12_paysBack_36 : decode cX12_paysBack 36 = .ok (.iadd, 1) := by decide +kernel
theorem dX12_paysBack_37 : decode cX12_paysBack 37 = .ok (.istore_n 3, 1) := by decide +kernel
theorem dX12_paysBack_38 : decode cX12_paysBack 38 = .ok (.aload_n 0, 1) := by decide +kernel
theorem dX12_paysBack_39 : decode cX12_paysBack 39 = .ok (.aload_n 0, 1) := by decide +kernel
theorem dX12_paysBack_40 : decode cX12_paysBack 40 = .ok (.getfield 7, 3) := by decide +kernel
theorem dX12_paysBack_43 : decode cX12_paysBack 43 = .ok (.iload_n 2, 1) := by decide +kernel
theorem dX12_paysBack_44 : decode cX12_paysBack 44 = .ok (.iaload, 1) := by decide +kernel
theorem dX12_paysBack_45 : decode cX12_paysBack 45 = .ok (.iconst 4, 1) := by decide +kernel
theorem dX12_paysBack_46 : decode cX12_paysBack 46 = .ok (.iload_n 3, 1) := by decide +kernel
theorem dX12_paysBack_47 : decode cX12_paysBack 47 = .ok (.invokevirtual 171, 3) := by decide +kernel
theorem dX12_paysBack_50 : decode cX12_paysBack 50 = .ok (.aload_n 0, 1) := by decide +kernel
theorem dX12_paysBack_51 : decode cX12_paysBack 51 = .ok (.aload_n 0, 1) := by decide +kernel
theorem dX12_paysBack_52 : decode cX12_paysBack 52 = .ok (.getfield 7, 3) := by decide +kernel
theorem dX12_paysBack_55 : decode cX12_paysBack 55 = .ok (.iload_n 2, 1) := by decide +kernel
theorem dX12_paysBack_56 : decode cX12_paysBack 56 = .ok (.iconst 1, 1) := by decide +kernel
theorem dX12_paysBack_57 : decode cX12_paysBack 57 = .ok (.iadd, 1) := by decide +kernel
theorem dX12_paysBack_58 : decode cX12_paysBack 58 = .ok (.iaload, 1) := by decide +kernel
theorem dX12_paysBack_59 : decode cX12_paysBack 59 = .ok (.iconst 4, 1) := by decide +kernel
theorem dX12_paysBack_60 : decode cX12_paysBack 60 = .ok (.iload_n 3, 1) := by decide +kernel
theorem dX12_paysBack_61 : decode cX12_paysBack 61 = .ok (.ineg, 1) := by decide +kernel
theorem dX12_paysBack_62 : decode cX12_paysBack 62 = .ok (.invokevirtual 171, 3) := by decide +kernel
theorem dX12_paysBack_65 : decode cX12_paysBack 65 = .ok (.return_, 1) := by decide +kernel
set_option maxRecDepth 20000 in
theorem ggX12_ends_X12_lies : GoodIn wsX12_ends wsX12_lies := goodIn_r _ [6, 7, 8, 9, 5, 10, 1, 31, 32, 33, 34, 35, 36, 37, 38, 39, 40, 41, 42, 43, 44, 45, 46, 47, 48, 49, 50, 51] (by decide +kernel) (by decide +kernel)
set_option maxRecDepth 20000 in
theorem gX12_ends_X12_lies : GoodIn wsX12_ends (wsV RX12 181 RX12 yX12_lies wsX12_lies) := goodIn_app (goodIn_of _ (by decide +kernel)) ggX12_ends_X12_lies
set_option maxRecDepth 20000 in
theorem ggX12_ends_X12_value : GoodIn wsX12_ends wsX12_value := goodIn_r _ [14, 7, 8, 9, 5, 10, 1, 31, 32, 33, 34, 35, 36, 37, 38, 39, 40, 41, 42, 43, 44, 45, 46, 47, 48, 49, 50, 51] (by decide +kernel) (by decide +kernel)
set_option maxRecDepth 20000 in
theorem gX12_ends_X12_value : GoodIn wsX12_ends (wsV RX12 196 RX12 yX12_value wsX12_value) := goodIn_app (goodIn_of _ (by decide +kernel)) ggX12_ends_X12_value
set_option maxRecDepth 20000 in
theorem ggX12_ends_X12_its : GoodIn wsX12_ends wsX12_its := goodIn_r _ [10, 1, 31, 32, 33, 34, 35, 36, 37, 38, 39, 40, 41, 42, 43, 44, 45, 46, 47, 48, 49, 50, 51] (by decide +kernel) (by decide +kernel)
set_option maxRecDepth 20000 in
theorem gX12_ends_X12_its : GoodIn wsX12_ends (wsV RX12 159 RX12 yX12_its wsX12_its) := goodIn_app (goodIn_of _ (by decide +kernel)) ggX12_ends_X12_its
set_option maxRecDepth 20000 in
theorem ggX12_ends_X12_room : GoodIn wsX12_ends wsX12_room := goodIn_r _ [18, 7, 8, 9, 5, 10, 1, 31, 32, 33, 34, 35, 36, 37, 38, 39, 40, 41, 42, 43, 44, 45, 46, 47, 48, 49, 50, 51] (by decide +kernel) (by decide +kernel)
set_option maxRecDepth 20000 in
theorem gX12_ends_X12_room : GoodIn wsX12_ends (wsV RX12 162 RX12 yX12_room wsX12_room) := goodIn_app (goodIn_of _ (by decide +kernel)) ggX12_ends_X12_room
set_option maxRecDepth 20000 in
theorem ggX12_ends_X12_comes : GoodIn wsX12_ends wsX12_comes := goodIn_r _ [22, 1, 7, 8, 9, 5, 10, 11, 12, 13, 14, 15, 16, 17, 18, 23, 24, 25, 26, 31, 32, 33, 34, 35, 36, 37, 38, 39, 40, 41, 42, 43, 44, 45, 46, 47, 48, 49, 50, 51] (by decide +kernel) (by decide +kernel)
set_option maxRecDepth 20000 in
theorem gX12_ends_X12_comes : GoodIn wsX12_ends (wsV RX12 211 RX12 yX12_comes wsX12_comes) := goodIn_app (goodIn_of _ (by decide +kernel)) ggX12_ends_X12_comes
set_option maxRecDepth 20000 in
theorem ggX12_ends_X12_paysBack : GoodIn wsX12_ends wsX12_paysBack := goodIn_r _ [30, 1, 23, 24, 25, 5, 26, 31, 32, 33, 34, 35, 36, 37, 38, 39, 40, 41, 42, 43, 44, 45, 46, 47, 48, 49, 50, 51] (by decide +kernel) (by decide +kernel)
set_option maxRecDepth 20000 in
theorem gX12_ends_X12_paysBack : GoodIn wsX12_ends (wsV RX12 214 RX12 yX12_paysBack wsX12_paysBack) := goodIn_app (goodIn_of _ (by decide +kernel)) ggX12_ends_X12_paysBack
theorem dX12_ends_0 : decode cX12_ends 0 = .ok (.aload_n 0, 1) := by decide +kernel
theorem dX12_ends_1 : decode cX12_ends 1 = .ok (.getfield 7, 3) := by decide +kernel
theorem dX12_ends_4 : decode cX12_ends 4 = .ok (.iconst 1, 1) := by decide +kernel
theorem dX12_ends_5 : decode cX12_ends 5 = .ok (.iaload, 1) := by decide +kernel
theorem dX12_ends_6 : decode cX12_ends 6 = .ok (.ifCond .eq 15, 3) := by decide +kernel
theorem dX12_ends_9 : decode cX12_ends 9 = .ok (.aload_n 0, 1) := by decide +kernel
theorem dX12_ends_10 : decode cX12_ends 10 = .ok (.getfield 7, 3) := by decide +kernel
theorem dX12_ends_13 : decode cX12_ends 13 = .ok (.iconst 0, 1) := by decide +kernel
theorem dX12_ends_14 : decode cX12_ends 14 = .ok (.iaload, 1) := by decide +kernel
theorem dX12_ends_15 : decode cX12_ends 15 = .ok (.sipush 199, 3) := by decide +kernel
theorem dX12_ends_18 : decode cX12_ends 18 = .ok (.if_icmp .ne 5, 3) := by decide +kernel
theorem dX12_ends_21 : decode cX12_ends 21 = .ok (.iconst (-1), 1) := by decide +kernel
theorem dX12_ends_22 : decode cX12_ends 22 = .ok (.ireturn, 1) := by decide +kernel
theorem dX12_ends_23 : decode cX12_ends 23 = .ok (.sipush 280, 3) := by decide +kernel
theorem dX12_ends_26 : decode cX12_ends 26 = .ok (.bipush 9, 2) := by decide +kernel
theorem dX12_ends_28 : decode cX12_ends 28 = .ok (.aload_n 0, 1) := by decide +kernel
theorem dX12_ends_29 : decode cX12_ends 29 = .ok (.getfield 7, 3) := by decide +kernel
theorem dX12_ends_32 : decode cX12_ends 32 = .ok (.iconst 0, 1) := by decide +kernel
theorem dX12_ends_33 : decode cX12_ends 33 = .ok (.iaload, 1) := by decide +kernel
theorem dX12_ends_34 : decode cX12_ends 34 = .ok (.imul, 1) := by decide +kernel
theorem dX12_ends_35 : decode cX12_ends 35 = .ok (.iadd, 1) := by decide +kernel
theorem dX12_ends_36 : decode cX12_ends 36 = .ok (.istore_n 2, 1) := by decide +kernel
theorem dX12_ends_37 : decode cX12_ends 37 = .ok (.iconst 0, 1) := by decide +kernel
theorem dX12_ends_38 : decode cX12_ends 38 = .ok (.istore_n 3, 1) := by decide +kernel
theorem dX12_ends_39 : decode cX12_ends 39 = .ok (.iload_n 3, 1) := by decide +kernel
theorem dX12_ends_40 : decode cX12_ends 40 = .ok (.bipush 9, 2) := by decide +kernel
theorem dX12_ends_42 : decode cX12_ends 42 = .ok (.if_icmp .ge 18, 3) := by decide +kernel
theorem dX12_ends_45 : decode cX12_ends 45 = .ok (.aload_n 0, 1) := by decide +kernel
theorem dX12_ends_46 : decode cX12_ends 46 = .ok (.getfield 7, 3) := by decide +kernel
theorem dX12_ends_49 : decode cX12_ends 49 = .ok (.iload_n 2, 1) := by decide +kernel
theorem dX12_ends_50 : decode cX12_ends 50 = .ok (.iload_n 3, 1) := by decide +kernel
theorem dX12_ends_51 : decode cX12_ends 51 = .ok (.iadd, 1) := by decide +kernel
theorem dX12_ends_52 : decode cX12_ends 52 = .ok (.iconst 0, 1) := by decide +kernel
theorem dX12_ends_53 : decode cX12_ends 53 = .ok (.iastore, 1) := by decide +kernel
theorem dX12_ends_54 : decode cX12_ends 54 = .ok (.iinc 3 1, 3) := by decide +kernel
theorem dX12_ends_57 : decode cX12_ends 57 = .ok (.goto (-18), 3) := by decide +kernel
theorem dX12_ends_60 : decode cX12_ends 60 = .ok (.aload_n 0, 1) := by decide +kernel
theorem dX12_ends_61 : decode cX12_ends 61 = .ok (.getfield 7, 3) := by decide +kernel
theorem dX12_ends_64 : decode cX12_ends 64 = .ok (.iload_n 2, 1) := by decide +kernel
theorem dX12_ends_65 : decode cX12_ends 65 = .ok (.aload_n 0, 1) := by decide +kernel
theorem dX12_ends_66 : decode cX12_ends 66 = .ok (.getfield 7, 3) := by decide +kernel
theorem dX12_ends_69 : decode cX12_ends 69 = .ok (.iconst 2, 1) := by decide +kernel
theorem dX12_ends_70 : decode cX12_ends 70 = .ok (.iaload, 1) := by decide +kernel
theorem dX12_ends_71 : decode cX12_ends 71 = .ok (.iastore, 1) := by decide +kernel
theorem dX12_ends_72 : decode cX12_ends 72 = .ok (.aload_n 0, 1) := by decide +kernel
theorem dX12_ends_73 : decode cX12_ends 73 = .ok (.getfield 7, 3) := by decide +kernel
theorem dX12_ends_76 : decode cX12_ends 76 = .ok (.iload_n 2, 1) := by decide +kernel
theorem dX12_ends_77 : decode cX12_ends 77 = .ok (.bipush 8, 2) := by decide +kernel
theorem dX12_ends_79 : decode cX12_ends 79 = .ok (.iadd, 1) := by decide +kernel
theorem dX12_ends_80 : decode cX12_ends 80 = .ok (.iload_n 1, 1) := by decide +kernel
theorem dX12_ends_81 : decode cX12_ends 81 = .ok (.ifCond .eq 7, 3) := by decide +kernel
theorem dX12_ends_84 : decode cX12_ends 84 = .ok (.iconst 1, 1) := by decide +kernel
theorem dX12_ends_85 : decode cX12_ends 85 = .ok (.goto 4, 3) := by decide +kernel
theorem dX12_ends_88 : decode cX12_ends 88 = .ok (.iconst 0, 1) := by decide +kernel
theorem dX12_ends_89 : decode cX12_ends 89 = .ok (.iastore, 1) := by decide +kernel
theorem dX12_ends_90 : decode cX12_ends 90 = .ok (.iconst 0, 1) := by decide +kernel
theorem dX12_ends_91 : decode cX12_ends 91 = .ok (.istore_n 3, 1) := by decide +kernel
theorem dX12_ends_92 : decode cX12_ends 92 = .ok (.iconst 0, 1) := by decide +kernel
theorem dX12_ends_93 : decode cX12_ends 93 = .ok (.istore 4, 2) := by decide +kernel
theorem dX12_ends_95 : decode cX12_ends 95 = .ok (.iload 4, 2) := by decide +kernel
theorem dX12_ends_97 : decode cX12_ends 97 = .ok (.aload_n 0, 1) := by decide +kernel
theorem dX12_ends_98 : decode cX12_ends 98 = .ok (.getfield 7, 3) := by decide +kernel
theorem dX12_ends_101 : decode cX12_ends 101 = .ok (.iconst 4, 1) := by decide +kernel
theorem dX12_ends_102 : decode cX12_ends 102 = .ok (.iaload, 1) := by decide +kernel
theorem dX12_ends_103 : decode cX12_ends 103 = .ok (.if_icmp .ge 77, 3) := by decide +kernel
theorem dX12_ends_106 : decode cX12_ends 106 = .ok (.aload_n 0, 1) := by decide +kernel
theorem dX12_ends_107 : decode cX12_ends 107 = .ok (.iload 4, 2) := by decide +kernel
theorem dX12_ends_109 : decode cX12_ends 109 = .ok (.invokevirtual 181, 3) := by decide +kernel
theorem dX12_ends_112 : decode cX12_ends 112 = .ok (.ifCond .ne 6, 3) := by decide +kernel
theorem dX12_ends_115 : decode cX12_ends 115 = .ok (.goto 59, 3) := by decide +kernel
theorem dX12_ends_118 : decode cX12_ends 118 = .ok (.aload_n 0, 1) := by decide +kernel
theorem dX12_ends_119 : decode cX12_ends 119 = .ok (.getfield 7, 3) := by decide +kernel
theorem dX12_ends_122 : decode cX12_ends 122 = .ok (.iload_n 2, 1) := by decide +kernel
theorem dX12_ends_123 : decode cX12_ends 123 = .ok (.iconst 1, 1) := by decide +kernel
theorem dX12_ends_124 : decode cX12_ends 124 = .ok (.iadd, 1) := by decide +kernel
theorem dX12_ends_125 : decode cX12_ends 125 = .ok (.dup2, 1) := by decide +kernel
theorem dX12_ends_126 : decode cX12_ends 126 = .ok (.iaload, 1) := by decide +kernel
theorem dX12_ends_127 : decode cX12_ends 127 = .ok (.iconst 1, 1) := by decide +kernel
theorem dX12_ends_128 : decode cX12_ends 128 = .ok (.iadd, 1) := by decide +kernel
theorem dX12_ends_129 : decode cX12_ends 129 = .ok (.iastore, 1) := by decide +kernel
theorem dX12_ends_130 : decode cX12_ends 130 = .ok (.aload_n 0, 1) := by decide +kernel
theorem dX12_ends_131 : decode cX12_ends 131 = .ok (.getfield 7, 3) := by decide +kernel
theorem dX12_ends_134 : decode cX12_ends 134 = .ok (.iload_n 2, 1) := by decide +kernel
theorem dX12_ends_135 : decode cX12_ends 135 = .ok (.iconst 2, 1) := by decide +kernel
theorem dX12_ends_136 : decode cX12_ends 136 = .ok (.iadd, 1) := by decide +kernel
theorem dX12_ends_137 : decode cX12_ends 137 = .ok (.dup2, 1) := by decide +kernel
theorem dX12_ends_138 : decode cX12_ends 138 = .ok (.iaload, 1) := by decide +kernel
theorem dX12_ends_139 : decode cX12_ends 139 = .ok (.aload_n 0, 1) := by decide +kernel
theorem dX12_ends_140 : decode cX12_ends 140 = .ok (.iload 4, 2) := by decide +kernel
theorem dX12_ends_142 : decode cX12_ends 142 = .ok (.invokevirtual 196, 3) := by decide +kernel
theorem dX12_ends_145 : decode cX12_ends 145 = .ok (.iadd, 1) := by decide +kernel
theorem dX12_ends_146 : decode cX12_ends 146 = .ok (.iastore, 1) := by decide +kernel
theorem dX12_ends_147 : decode cX12_ends 147 = .ok (.aload_n 0, 1) := by decide +kernel
theorem dX12_ends_148 : decode cX12_ends 148 = .ok (.getfield 7, 3) := by decide +kernel
theorem dX12_ends_151 : decode cX12_ends 151 = .ok (.iload_n 2, 1) := by decide +kernel
theorem dX12_ends_152 : decode cX12_ends 152 = .ok (.iconst 3, 1) := by decide +kernel
theorem dX12_ends_153 : decode cX12_ends 153 = .ok (.iadd, 1) := by decide +kernel
theorem dX12_ends_154 : decode cX12_ends 154 = .ok (.dup2, 1) := by decide +kernel
theorem dX12_ends_155 : decode cX12_ends 155 = .ok (.iaload, 1) := by decide +kernel
theorem dX12_ends_156 : decode cX12_ends 156 = .ok (.aload_n 0, 1) := by decide +kernel
theorem dX12_ends_157 : decode cX12_ends 157 = .ok (.iload 4, 2) := by decide +kernel
theorem dX12_ends_159 : decode cX12_ends 159 = .ok (.iconst 2, 1) := by decide +kernel
theorem dX12_ends_160 : decode cX12_ends 160 = .ok (.invokevirtual 159, 3) := by decide +kernel
theorem dX12_ends_163 : decode cX12_ends 163 = .ok (.iadd, 1) := by decide +kernel
theorem dX12_ends_164 : decode cX12_ends 164 = .ok (.iastore, 1) := by decide +kernel
theorem dX12_ends_165 : decode cX12_ends 165 = .ok (.iload_n 3, 1) := by decide +kernel
theorem dX12_ends_166 : decode cX12_ends 166 = .ok (.aload_n 0, 1) := by decide +kernel
theorem dX12_ends_167 : decode cX12_ends 167 = .ok (.iload 4, 2) := by decide +kernel
theorem dX12_ends_169 : decode cX12_ends 169 = .ok (.invokevirtual 162, 3) := by decide +kernel
theorem dX12_ends_172 : decode cX12_ends 172 = .ok (.iadd, 1) := by decide +kernel
theorem dX12_ends_173 : decode cX12_ends 173 = .ok (.istore_n 3, 1) := by decide +kernel
theorem dX12_ends_174 : decode cX12_ends 174 = .ok (.iinc 4 1, 3) := by decide +kernel
theorem dX12_ends_177 : decode cX12_ends 177 = .ok (.goto (-82), 3) := by decide +kernel
theorem dX12_ends_180 : decode cX12_ends 180 = .ok (.iload_n 1, 1) := by decide +kernel
theorem dX12_ends_181 : decode cX12_ends 181 = .ok (.ifCond .eq 7, 3) := by decide +kernel
theorem dX12_ends_184 : decode cX12_ends 184 = .ok (.iconst 0, 1) := by decide +kernel
theorem dX12_ends_185 : decode cX12_ends 185 = .ok (.goto 11, 3) := by decide +kernel
theorem dX12_ends_188 : decode cX12_ends 188 = .ok (.sipush 20000, 3) := by decide +kernel
theorem dX12_ends_191 : decode cX12_ends 191 = .ok (.bipush 100, 2) := by decide +kernel
theorem dX12_ends_193 : decode cX12_ends 193 = .ok (.iload_n 3, 1) := by decide +kernel
theorem dX12_ends_194 : decode cX12_ends 194 = .ok (.iadd, 1) := by decide +kernel
theorem dX12_ends_195 : decode cX12_ends 195 = .ok (.idiv, 1) := by decide +kernel
theorem dX12_ends_196 : decode cX12_ends 196 = .ok (.istore 4, 2) := by decide +kernel
theorem dX12_ends_198 : decode cX12_ends 198 = .ok (.aload_n 0, 1) := by decide +kernel
theorem dX12_ends_199 : decode cX12_ends 199 = .ok (.getfield 7, 3) := by decide +kernel
theorem dX12_ends_202 : decode cX12_ends 202 = .ok (.iload_n 2, 1) := by decide +kernel
theorem dX12_ends_203 : decode cX12_ends 203 = .ok (.iconst 4, 1) := by decide +kernel
theorem dX12_ends_204 : decode cX12_ends 204 = .ok (.iadd, 1) := by decide +kernel
theorem dX12_ends_205 : decode cX12_ends 205 = .ok (.iload 4, 2) := by decide +kernel
theorem dX12_ends_207 : decode cX12_ends 207 = .ok (.iastore, 1) := by decide +kernel
theorem dX12_ends_208 : decode cX12_ends 208 = .ok (.iconst 0, 1) := by decide +kernel
theorem dX12_ends_209 : decode cX12_ends 209 = .ok (.istore 5, 2) := by decide +kernel
theorem dX12_ends_211 : decode cX12_ends 211 = .ok (.iload 5, 2) := by decide +kernel
theorem dX12_ends_213 : decode cX12_ends 213 = .ok (.aload_n 0, 1) := by decide +kernel
theorem dX12_ends_214 : decode cX12_ends 214 = .ok (.getfield 7, 3) := by decide +kernel
theorem dX12_ends_217 : decode cX12_ends 217 = .ok (.iconst 4, 1) := by decide +kernel
theorem dX12_ends_218 : decode cX12_ends 218 = .ok (.iaload, 1) := by decide +kernel
theorem dX12_ends_219 : decode cX12_ends 219 = .ok (.if_icmp .ge 31, 3) := by decide +kernel
theorem dX12_ends_222 : decode cX12_ends 222 = .ok (.iload_n 1, 1) := by decide +kernel
theorem dX12_ends_223 : decode cX12_ends 223 = .ok (.ifCond .ne 27, 3) := by decide +kernel
theorem dX12_ends_226 : decode cX12_ends 226 = .ok (.aload_n 0, 1) := by decide +kernel
theorem dX12_ends_227 : decode cX12_ends 227 = .ok (.iload 5, 2) := by decide +kernel
theorem dX12_ends_229 : decode cX12_ends 229 = .ok (.invokevirtual 181, 3) := by decide +kernel
theorem dX12_ends_232 : decode cX12_ends 232 = .ok (.ifCond .eq 12, 3) := by decide +kernel
theorem dX12_ends_235 : decode cX12_ends 235 = .ok (.aload_n 0, 1) := by decide +kernel
theorem dX12_ends_236 : decode cX12_ends 236 = .ok (.iload 5, 2) := by decide +kernel
theorem dX12_ends_238 : decode cX12_ends 238 = .ok (.iload 4, 2) := by decide +kernel
theorem dX12_ends_240 : decode cX12_ends 240 = .ok (.iload_n 2, 1) := by decide +kernel
theorem dX12_ends_241 : decode cX12_ends 241 = .ok (.invokevirtual 211, 3) := by decide +kernel
theorem dX12_ends_244 : decode cX12_ends 244 = .ok (.iinc 5 1, 3) := by decide +kernel
theorem dX12_ends_247 : decode cX12_ends 247 = .ok (.goto (-36), 3) := by decide +kernel
theorem dX12_ends_250 : decode cX12_ends 250 = .ok (.iconst 0, 1) := by decide +kernel
theorem dX12_ends_251 : decode cX12_ends 251 = .ok (.istore 5, 2) := by decide +kernel
theorem dX12_ends_253 : decode cX12_ends 253 = .ok (.iload 5, 2) := by decide +kernel
theorem dX12_ends_255 : decode cX12_ends 255 = .ok (.aload_n 0, 1) := by decide +kernel
theorem dX12_ends_256 : decode cX12_ends 256 = .ok (.getfield 7, 3) := by decide +kernel
theorem dX12_ends_259 : decode cX12_ends 259 = .ok (.iconst 5, 1) := by decide +kernel
theorem dX12_ends_260 : decode cX12_ends 260 = .ok (.iaload, 1) := by decide +kernel
theorem dX12_ends_261 : decode cX12_ends 261 = .ok (.if_icmp .ge 19, 3) := by decide +kernel
theorem dX12_ends_264 : decode cX12_ends 264 = .ok (.iload_n 1, 1) := by decide +kernel
theorem dX12_ends_265 : decode cX12_ends 265 = .ok (.ifCond .ne 15, 3) := by decide +kernel
theorem dX12_ends_268 : decode cX12_ends 268 = .ok (.aload_n 0, 1) := by decide +kernel
theorem dX12_ends_269 : decode cX12_ends 269 = .ok (.iload 5, 2) := by decide +kernel
theorem dX12_ends_271 : decode cX12_ends 271 = .ok (.invokevirtual 214, 3) := by decide +kernel
theorem dX12_ends_274 : decode cX12_ends 274 = .ok (.iinc 5 1, 3) := by decide +kernel
theorem dX12_ends_277 : decode cX12_ends 277 = .ok (.goto (-24), 3) := by decide +kernel
theorem dX12_ends_280 : decode cX12_ends 280 = .ok (.aload_n 0, 1) := by decide +kernel
theorem dX12_ends_281 : decode cX12_ends 281 = .ok (.getfield 7, 3) := by decide +kernel
theorem dX12_ends_284 : decode cX12_ends 284 = .ok (.bipush 6, 2) := by decide +kernel
theorem dX12_ends_286 : decode cX12_ends 286 = .ok (.dup2, 1) := by decide +kernel
theorem dX12_ends_287 : decode cX12_ends 287 = .ok (.iaload, 1) := by decide +kernel
theorem dX12_ends_288 : decode cX12_ends 288 = .ok (.iload_n 1, 1) := by decide +kernel
theorem dX12_ends_289 : decode cX12_ends 289 = .ok (.ifCond .eq 7, 3) := by decide +kernel
theorem dX12_ends_292 : decode cX12_ends 292 = .ok (.iconst 1, 1) := by decide +kernel
theorem dX12_ends_293 : decode cX12_ends 293 = .ok (.goto 4, 3) := by decide +kernel
theorem dX12_ends_296 : decode cX12_ends 296 = .ok (.iconst 0, 1) := by decide +kernel
theorem dX12_ends_297 : decode cX12_ends 297 = .ok (.iadd, 1) := by decide +kernel
theorem dX12_ends_298 : decode cX12_ends 298 = .ok (.iastore, 1) := by decide +kernel
theorem dX12_ends_299 : decode cX12_ends 299 = .ok (.aload_n 0, 1) := by decide +kernel
theorem dX12_ends_300 : decode cX12_ends 300 = .ok (.getfield 7, 3) := by decide +kernel
theorem dX12_ends_303 : decode cX12_ends 303 = .ok (.iconst 0, 1) := by decide +kernel
theorem dX12_ends_304 : decode cX12_ends 304 = .ok (.dup2, 1) := by decide +kernel
theorem dX12_ends_305 : decode cX12_ends 305 = .ok (.iaload, 1) := by decide +kernel
theorem dX12_ends_306 : decode cX12_ends 306 = .ok (.iconst 1, 1) := by decide +kernel
theorem dX12_ends_307 : decode cX12_ends 307 = .ok (.iadd, 1) := by decide +kernel
theorem dX12_ends_308 : decode cX12_ends 308 = .ok (.iastore, 1) := by decide +kernel
theorem dX12_ends_309 : decode cX12_ends 309 = .ok (.aload_n 0, 1) := by decide +kernel
theorem dX12_ends_310 : decode cX12_ends 310 = .ok (.getfield 7, 3) := by decide +kernel
theorem dX12_ends_313 : decode cX12_ends 313 = .ok (.iconst 1, 1) := by decide +kernel
theorem dX12_ends_314 : decode cX12_ends 314 = .ok (.iconst 0, 1) := by decide +kernel
theorem dX12_ends_315 : decode cX12_ends 315 = .ok (.iastore, 1) := by decide +kernel
theorem dX12_ends_316 : decode cX12_ends 316 = .ok (.aload_n 0, 1) := by decide +kernel
theorem dX12_ends_317 : decode cX12_ends 317 = .ok (.getfield 7, 3) := by decide +kernel
theorem dX12_ends_320 : decode cX12_ends 320 = .ok (.iconst 2, 1) := by decide +kernel
theorem dX12_ends_321 : decode cX12_ends 321 = .ok (.iconst 0, 1) := by decide +kernel
theorem dX12_ends_322 : decode cX12_ends 322 = .ok (.iastore, 1) := by decide +kernel
theorem dX12_ends_323 : decode cX12_ends 323 = .ok (.aload_n 0, 1) := by decide +kernel
theorem dX12_ends_324 : decode cX12_ends 324 = .ok (.getfield 7, 3) := by decide +kernel
theorem dX12_ends_327 : decode cX12_ends 327 = .ok (.iconst 4, 1) := by decide +kernel
theorem dX12_ends_328 : decode cX12_ends 328 = .ok (.iconst 0, 1) := by decide +kernel
theorem dX12_ends_329 : decode cX12_ends 329 = .ok (.iastore, 1) := by decide +kernel
theorem dX12_ends_330 : decode cX12_ends 330 = .ok (.aload_n 0, 1) := by decide +kernel
theorem dX12_ends_331 : decode cX12_ends 331 = .ok (.getfield 7, 3) := by decide +kernel
theorem dX12_ends_334 : decode cX12_ends 334 = .ok (.iconst 5, 1) := by decide +kernel
theorem dX12_ends_335 : decode cX12_ends 335 = .ok (.iconst 0, 1) := by decide +kernel
theorem dX12_ends_336 : decode cX12_ends 336 = .ok (.iastore, 1) := by decide +kernel
theorem dX12_ends_337 : decode cX12_ends 337 = .ok (.aload_n 0, 1) := by decide +kernel
theorem dX12_ends_338 : decode cX12_ends 338 = .ok (.getfield 7, 3) := by decide +kernel
theorem dX12_ends_341 : decode cX12_ends 341 = .ok (.bipush 16, 2) := by decide +kernel
theorem dX12_ends_343 : decode cX12_ends 343 = .ok (.iconst 0, 1) := by decide +kernel
theorem dX12_ends_344 : decode cX12_ends 344 = .ok (.iastore, 1) := by decide +kernel
theorem dX12_ends_345 : decode cX12_ends 345 = .ok (.iconst 0, 1) := by decide +kernel
theorem dX12_ends_346 : decode cX12_ends 346 = .ok (.istore 5, 2) := by decide +kernel
theorem dX12_ends_348 : decode cX12_ends 348 = .ok (.iload 5, 2) := by decide +kernel
theorem dX12_ends_350 : decode cX12_ends 350 = .ok (.aload_n 0, 1) := by decide +kernel
theorem dX12_ends_351 : decode cX12_ends 351 = .ok (.getfield 7, 3) := by decide +kernel
theorem dX12_ends_354 : decode cX12_ends 354 = .ok (.iconst 3, 1) := by decide +kernel
theorem dX12_ends_355 : decode cX12_ends 355 = .ok (.iaload, 1) := by decide +kernel
theorem dX12_ends_356 : decode cX12_ends 356 = .ok (.if_icmp .ge 25, 3) := by decide +kernel
theorem dX12_ends_359 : decode cX12_ends 359 = .ok (.aload_n 0, 1) := by decide +kernel
theorem dX12_ends_360 : decode cX12_ends 360 = .ok (.getfield 7, 3) := by decide +kernel
theorem dX12_ends_363 : decode cX12_ends 363 = .ok (.bipush 20, 2) := by decide +kernel
theorem dX12_ends_365 : decode cX12_ends 365 = .ok (.bipush 8, 2) := by decide +kernel
theorem dX12_ends_367 : decode cX12_ends 367 = .ok (.iload 5, 2) := by decide +kernel
theorem dX12_ends_369 : decode cX12_ends 369 = .ok (.imul, 1) := by decide +kernel
theorem dX12_ends_370 : decode cX12_ends 370 = .ok (.iadd, 1) := by decide +kernel
theorem dX12_ends_371 : decode cX12_ends 371 = .ok (.iconst 2, 1) := by decide +kernel
theorem dX12_ends_372 : decode cX12_ends 372 = .ok (.iadd, 1) := by decide +kernel
theorem dX12_ends_373 : decode cX12_ends 373 = .ok (.iconst 0, 1) := by decide +kernel
theorem dX12_ends_374 : decode cX12_ends 374 = .ok (.iastore, 1) := by decide +kernel
theorem dX12_ends_375 : decode cX12_ends 375 = .ok (.iinc 5 1, 3) := by decide +kernel
theorem dX12_ends_378 : decode cX12_ends 378 = .ok (.goto (-30), 3) := by decide +kernel
theorem dX12_ends_381 : decode cX12_ends 381 = .ok (.aload_n 0, 1) := by decide +kernel
theorem dX12_ends_382 : decode cX12_ends 382 = .ok (.getfield 7, 3) := by decide +kernel
theorem dX12_ends_385 : decode cX12_ends 385 = .ok (.iconst 0, 1) := by decide +kernel
theorem dX12_ends_386 : decode cX12_ends 386 = .ok (.iaload, 1) := by decide +kernel
theorem dX12_ends_387 : decode cX12_ends 387 = .ok (.ireturn, 1) := by decide +kernel
set_option maxRecDepth 20000 in
theorem ggX12_tell_X12_isCitizen : GoodIn wsX12_tell wsX12_isCitizen := goodIn_r _ [6, 7, 8, 9, 5, 10, 39, 40, 41, 42, 43, 44, 45, 46, 47, 48, 49, 50, 51, 52, 53, 54, 55, 56, 57, 58, 59] (by decide +kernel) (by decide +kernel)
set_option maxRecDepth 20000 in
theorem gX12_tell_X12_isCitizen : GoodIn wsX12_tell (wsV RX12 165 RX12 yX12_isCitizen wsX12_isCitizen) := goodIn_app (goodIn_of _ (by decide +kernel)) ggX12_tell_X12_isCitizen
set_option maxRecDepth 20000 in
theorem ggX12_tell_X12_of : GoodIn wsX12_tell wsX12_of := goodIn_r _ [14, 7, 39, 40, 41, 42, 43, 44, 45, 46, 47, 48, 49, 50, 51, 52, 53, 54, 55, 56, 57, 58, 59] (by decide +kernel) (by decide +kernel)
set_option maxRecDepth 20000 in
theorem gX12_tell_X12_of : GoodIn wsX12_tell (wsV RX12 145 RX12 yX12_of wsX12_of) := goodIn_app (goodIn_of _ (by decide +kernel)) ggX12_tell_X12_of
set_option maxRecDepth 20000 in
theorem ggX12_tell_X12_share : GoodIn wsX12_tell wsX12_share := goodIn_r _ [18, 7, 19, 20, 21, 5, 22, 23, 24, 25, 26, 11, 12, 13, 14, 39, 40, 41, 42, 43, 44, 45, 46, 47, 48, 49, 50, 51, 52, 53, 54, 55, 56, 57, 58, 59] (by decide +kernel) (by decide +kernel)
set_option maxRecDepth 20000 in
theorem gX12_tell_X12_share : GoodIn wsX12_tell (wsV RX12 156 RX12 yX12_share wsX12_share) := goodIn_app (goodIn_of _ (by decide +kernel)) ggX12_tell_X12_share
set_option maxRecDepth 20000 in
theorem ggX12_tell_X12_free : GoodIn wsX12_tell wsX12_free := goodIn_r _ [30, 7, 11, 12, 13, 5, 14, 31, 32, 33, 34, 35, 36, 37, 38, 39, 40, 41, 42, 43, 44, 45, 46, 47, 48, 49, 50, 51, 52, 53, 54, 55, 56, 57, 58, 59] (by decide +kernel) (by decide +kernel)
set_option maxRecDepth 20000 in
theorem gX12_tell_X12_free : GoodIn wsX12_tell (wsV RX12 168 RX12 yX12_free wsX12_free) := goodIn_app (goodIn_of _ (by decide +kernel)) ggX12_tell_X12_free
theorem dX12_tell_0 : decode cX12_tell 0 = .ok (.aload_n 0, 1) := by decide +kernel
theorem dX12_tell_1 : decode cX12_tell 1 = .ok (.iload_n 1, 1) := by decide +kernel
theorem dX12_tell_2 : decode cX12_tell 2 = .ok (.invokevirtual 165, 3) := by decide +kernel
theorem dX12_tell_5 : decode cX12_tell 5 = .ok (.ifCond .ne 6, 3) := by decide +kernel
theorem dX12_tell_8 : decode cX12_tell 8 = .ok (.ldc 217, 2) := by decide +kernel
theorem dX12_tell_10 : decode cX12_tell 10 = .ok (.ireturn, 1) := by decide +kernel
theorem dX12_tell_11 : decode cX12_tell 11 = .ok (.iload_n 2, 1) := by decide +kernel
theorem dX12_tell_12 : decode cX12_tell 12 = .ok (.tableswitch 83 0 7 #[48, 48, 55, 61, 68, 74, 74, 74], 48) := by decide +kernel
theorem dX12_tell_60 : decode cX12_tell 60 = .ok (.aload_n 0, 1) := by decide +kernel
theorem dX12_tell_61 : decode cX12_tell 61 = .ok (.iload_n 1, 1) := by decide +kernel
theorem dX12_tell_62 : decode cX12_tell 62 = .ok (.iload_n 2, 1) := by decide +kernel
theorem dX12_tell_63 : decode cX12_tell 63 = .ok (.invokevirtual 145, 3) := by decide +kernel
theorem dX12_tell_66 : decode cX12_tell 66 = .ok (.ireturn, 1) := by decide +kernel
theorem dX12_tell_67 : decode cX12_tell 67 = .ok (.aload_n 0, 1) := by decide +kernel
theorem dX12_tell_68 : decode cX12_tell 68 = .ok (.iload_n 1, 1) := by decide +kernel
theorem dX12_tell_69 : decode cX12_tell 69 = .ok (.invokevirtual 156, 3) := by decide +kernel
theorem dX12_tell_72 : decode cX12_tell 72 = .ok (.ireturn, 1) := by decide +kernel
theorem dX12_tell_73 : decode cX12_tell 73 = .ok (.aload_n 0, 1) := by decide +kernel
theorem dX12_tell_74 : decode cX12_tell 74 = .ok (.iload_n 1, 1) := by decide +kernel
theorem dX12_tell_75 : decode cX12_tell 75 = .ok (.iconst 2, 1) := by decide +kernel
theorem dX12_tell_76 : decode cX12_tell 76 = .ok (.invokevirtual 145, 3) := by decide +kernel
theorem dX12_tell_79 : decode cX12_tell 79 = .ok (.ireturn, 1) := by decide +kernel
theorem dX12_tell_80 : decode cX12_tell 80 = .ok (.aload_n 0, 1) := by decide +kernel
theorem dX12_tell_81 : decode cX12_tell 81 = .ok (.iload_n 1, 1) := by decide +kernel
theorem dX12_tell_82 : decode cX12_tell 82 = .ok (.invokevirtual 168, 3) := by decide +kernel
theorem dX12_tell_85 : decode cX12_tell 85 = .ok (.ireturn, 1) := by decide +kernel
theorem dX12_tell_86 : decode cX12_tell 86 = .ok (.aload_n 0, 1) := by decide +kernel
theorem dX12_tell_87 : decode cX12_tell 87 = .ok (.iload_n 1, 1) := by decide +kernel
theorem dX12_tell_88 : decode cX12_tell 88 = .ok (.iload_n 2, 1) := by decide +kernel
theorem dX12_tell_89 : decode cX12_tell 89 = .ok (.iconst 1, 1) := by decide +kernel
theorem dX12_tell_90 : decode cX12_tell 90 = .ok (.isub, 1) := by decide +kernel
theorem dX12_tell_91 : decode cX12_tell 91 = .ok (.invokevirtual 145, 3) := by decide +kernel
theorem dX12_tell_94 : decode cX12_tell 94 = .ok (.ireturn, 1) := by decide +kernel
theorem dX12_tell_95 : decode cX12_tell 95 = .ok (.ldc 217, 2) := by decide +kernel
theorem dX12_tell_97 : decode cX12_tell 97 = .ok (.ireturn, 1) := by decide +kernel
set_option maxRecDepth 20000 in
theorem ggX12_about_X12_isBale : GoodIn wsX12_about wsX12_isBale := goodIn_r _ [5, 6, 7, 8, 4, 9, 22, 23, 24, 25, 26, 27, 28, 29, 30, 31, 32, 33, 34, 35, 36, 37, 38, 39, 40, 41, 42] (by decide +kernel) (by decide +kernel)
set_option maxRecDepth 20000 in
theorem gX12_about_X12_isBale : GoodIn wsX12_about (wsV RX12 178 RX12 yX12_isBale wsX12_isBale) := goodIn_app (goodIn_of _ (by decide +kernel)) ggX12_about_X12_isBale
set_option maxRecDepth 20000 in
theorem ggX12_about_X12_its : GoodIn wsX12_about wsX12_its := goodIn_r _ [13, 6, 22, 23, 24, 25, 26, 27, 28, 29, 30, 31, 32, 33, 34, 35, 36, 37, 38, 39, 40, 41, 42] (by decide +kernel) (by decide +kernel)
set_option maxRecDepth 20000 in
theorem gX12_about_X12_its : GoodIn wsX12_about (wsV RX12 159 RX12 yX12_its wsX12_its) := goodIn_app (goodIn_of _ (by decide +kernel)) ggX12_about_X12_its
set_option maxRecDepth 20000 in
theorem ggX12_about_X12_room : GoodIn wsX12_about wsX12_room := goodIn_r _ [17, 10, 11, 12, 4, 13, 6, 22, 23, 24, 25, 26, 27, 28, 29, 30, 31, 32, 33, 34, 35, 36, 37, 38, 39, 40, 41, 42] (by decide +kernel) (by decide +kernel)
set_option maxRecDepth 20000 in
theorem gX12_about_X12_room : GoodIn wsX12_about (wsV RX12 162 RX12 yX12_room wsX12_room) := goodIn_app (goodIn_of _ (by decide +kernel)) ggX12_about_X12_room
set_option maxRecDepth 20000 in
theorem ggX12_about_X12_value : GoodIn wsX12_about wsX12_value := goodIn_r _ [21, 10, 11, 12, 4, 13, 6, 22, 23, 24, 25, 26, 27, 28, 29, 30, 31, 32, 33, 34, 35, 36, 37, 38, 39, 40, 41, 42] (by decide +kernel) (by decide +kernel)
set_option maxRecDepth 20000 in
theorem gX12_about_X12_value : GoodIn wsX12_about (wsV RX12 196 RX12 yX12_value wsX12_value) := goodIn_app (goodIn_of _ (by decide +kernel)) ggX12_about_X12_value
theorem dX12_about_0 : decode cX12_about 0 = .ok (.aload_n 0, 1) := by decide +kernel
theorem dX12_about_1 : decode cX12_about 1 = .ok (.iload_n 1, 1) := by decide +kernel
theorem dX12_about_2 : decode cX12_about 2 = .ok (.invokevirtual 178, 3) := by decide +kernel
theorem dX12_about_5 : decode cX12_about 5 = .ok (.ifCond .ne 5, 3) := by decide +kernel
theorem dX12_about_8 : decode cX12_about 8 = .ok (.iconst (-1), 1) := by decide +kernel
theorem dX12_about_9 : decode cX12_about 9 = .ok (.ireturn, 1) := by decide +kernel
theorem dX12_about_10 : decode cX12_about 10 = .ok (.iload_n 2, 1) := by decide +kernel
theorem dX12_about_11 : decode cX12_about 11 = .ok (.tableswitch 77 0 8 #[49, 49, 49, 49, 49, 56, 62, 68, 68], 49) := by decide +kernel
theorem dX12_about_60 : decode cX12_about 60 = .ok (.aload_n 0, 1) := by decide +kernel
theorem dX12_about_61 : decode cX12_about 61 = .ok (.iload_n 1, 1) := by decide +kernel
theorem dX12_about_62 : decode cX12_about 62 = .ok (.iload_n 2, 1) := by decide +kernel
theorem dX12_about_63 : decode cX12_about 63 = .ok (.invokevirtual 159, 3) := by decide +kernel
theorem dX12_about_66 : decode cX12_about 66 = .ok (.ireturn, 1) := by decide +kernel
theorem dX12_about_67 : decode cX12_about 67 = .ok (.aload_n 0, 1) := by decide +kernel
theorem dX12_about_68 : decode cX12_about 68 = .ok (.iload_n 1, 1) := by decide +kernel
theorem dX12_about_69 : decode cX12_about 69 = .ok (.invokevirtual 162, 3) := by decide +kernel
theorem dX12_about_72 : decode cX12_about 72 = .ok (.ireturn, 1) := by decide +kernel
theorem dX12_about_73 : decode cX12_about 73 = .ok (.aload_n 0, 1) := by decide +kernel
theorem dX12_about_74 : decode cX12_about 74 = .ok (.iload_n 1, 1) := by decide +kernel
theorem dX12_about_75 : decode cX12_about 75 = .ok (.invokevirtual 196, 3) := by decide +kernel
theorem dX12_about_78 : decode cX12_about 78 = .ok (.ireturn, 1) := by decide +kernel
theorem dX12_about_79 : decode cX12_about 79 = .ok (.aload_n 0, 1) := by decide +kernel
theorem dX12_about_80 : decode cX12_about 80 = .ok (.iload_n 1, 1) := by decide +kernel
theorem dX12_about_81 : decode cX12_about 81 = .ok (.iload_n 2, 1) := by decide +kernel
theorem dX12_about_82 : decode cX12_about 82 = .ok (.iconst 2, 1) := by decide +kernel
theorem dX12_about_83 : decode cX12_about 83 = .ok (.isub, 1) := by decide +kernel
theorem dX12_about_84 : decode cX12_about 84 = .ok (.invokevirtual 159, 3) := by decide +kernel
theorem dX12_about_87 : decode cX12_about 87 = .ok (.ireturn, 1) := by decide +kernel
theorem dX12_about_88 : decode cX12_about 88 = .ok (.iconst (-1), 1) := by decide +kernel
theorem dX12_about_89 : decode cX12_about 89 = .ok (.ireturn, 1) := by decide +kernel
set_option maxRecDepth 20000 in
theorem ggX12_book_X12_isIn : GoodIn wsX12_book wsX12_isIn := goodIn_r _ [5] (by decide +kernel) (by decide +kernel)
set_option maxRecDepth 20000 in
theorem gX12_book_X12_isIn : GoodIn wsX12_book (va_wsS RX12 114 yX12_isIn wsX12_isIn) := goodIn_app (goodIn_of _ (by decide +kernel)) ggX12_book_X12_isIn
theorem dX12_book_0 : decode cX12_book 0 = .ok (.iload_n 1, 1) := by decide +kernel
theorem dX12_book_1 : decode cX12_book 1 = .ok (.iconst 0, 1) := by decide +kernel
theorem dX12_book_2 : decode cX12_book 2 = .ok (.aload_n 0, 1) := by decide +kernel
theorem dX12_book_3 : decode cX12_book 3 = .ok (.getfield 7, 3) := by decide +kernel
theorem dX12_book_6 : decode cX12_book 6 = .ok (.iconst 0, 1) := by decide +kernel
theorem dX12_book_7 : decode cX12_book 7 = .ok (.iaload, 1) := by decide +kernel
theorem dX12_book_8 : decode cX12_book 8 = .ok (.iconst 1, 1) := by decide +kernel
theorem dX12_book_9 : decode cX12_book 9 = .ok (.isub, 1) := by decide +kernel
theorem dX12_book_10 : decode cX12_book 10 = .ok (.invokestatic 114, 3) := by decide +kernel
theorem dX12_book_13 : decode cX12_book 13 = .ok (.ifCond .eq 31, 3) := by decide +kernel
theorem dX12_book_16 : decode cX12_book 16 = .ok (.iload_n 2, 1) := by decide +kernel
theorem dX12_book_17 : decode cX12_book 17 = .ok (.iconst 0, 1) := by decide +kernel
theorem dX12_book_18 : decode cX12_book 18 = .ok (.bipush 8, 2) := by decide +kernel
theorem dX12_book_20 : decode cX12_book 20 = .ok (.invokestatic 114, 3) := by decide +kernel
theorem dX12_book_23 : decode cX12_book 23 = .ok (.ifCond .eq 21, 3) := by decide +kernel
theorem dX12_book_26 : decode cX12_book 26 = .ok (.aload_n 0, 1) := by decide +kernel
theorem dX12_book_27 : decode cX12_book 27 = .ok (.getfield 7, 3) := by decide +kernel
theorem dX12_book_30 : decode cX12_book 30 = .ok (.sipush 280, 3) := by decide +kernel
theorem dX12_book_33 : decode cX12_book 33 = .ok (.bipush 9, 2) := by decide +kernel
theorem dX12_book_35 : decode cX12_book 35 = .ok (.iload_n 1, 1) := by decide +kernel
theorem dX12_book_36 : decode cX12_book 36 = .ok (.imul, 1) := by decide +kernel
theorem dX12_book_37 : decode cX12_book 37 = .ok (.iadd, 1) := by decide +kernel
theorem dX12_book_38 : decode cX12_book 38 = .ok (.iload_n 2, 1) := by decide +kernel
theorem dX12_book_39 : decode cX12_book 39 = .ok (.iadd, 1) := by decide +kernel
theorem dX12_book_40 : decode cX12_book 40 = .ok (.iaload, 1) := by decide +kernel
theorem dX12_book_41 : decode cX12_book 41 = .ok (.goto 4, 3) := by decide +kernel
theorem dX12_book_44 : decode cX12_book 44 = .ok (.iconst (-1), 1) := by decide +kernel
theorem dX12_book_45 : decode cX12_book 45 = .ok (.ireturn, 1) := by decide +kernel
set_option maxRecDepth 20000 in
theorem ggX12_count_X12_lies : GoodIn wsX12_count wsX12_lies := goodIn_r _ [7, 8, 9, 10, 6, 11, 1, 20, 21, 22, 23, 24, 25, 26, 27, 28, 29, 30, 31, 32, 33, 34, 35, 36, 37, 38, 39, 40] (by decide +kernel) (by decide +kernel)
set_option maxRecDepth 20000 in
theorem gX12_count_X12_lies : GoodIn wsX12_count (wsV RX12 181 RX12 yX12_lies wsX12_lies) := goodIn_app (goodIn_of _ (by decide +kernel)) ggX12_count_X12_lies
set_option maxRecDepth 20000 in
theorem ggX12_count_X12_tilt : GoodIn wsX12_count wsX12_tilt := goodIn_r _ [15, 1, 3, 4, 5, 6, 7, 8, 9, 10, 11, 20, 21, 22, 23, 24, 25, 26, 27, 28, 29, 30, 31, 32, 33, 34, 35, 36, 37, 38, 39, 40] (by decide +kernel) (by decide +kernel)
set_option maxRecDepth 20000 in
theorem gX12_count_X12_tilt : GoodIn wsX12_count (wsV RX12 184 RX12 yX12_tilt wsX12_tilt) := goodIn_app (goodIn_of _ (by decide +kernel)) ggX12_count_X12_tilt
set_option maxRecDepth 20000 in
theorem ggX12_count_X12_weight : GoodIn wsX12_count wsX12_weight := goodIn_r _ [19, 1, 3, 4, 5, 6, 7, 8, 9, 10, 11, 20, 21, 22, 23, 24, 25, 26, 27, 28, 29, 30, 31, 32, 33, 34, 35, 36, 37, 38, 39, 40] (by decide +kernel) (by decide +kernel)
set_option maxRecDepth 20000 in
theorem gX12_count_X12_weight : GoodIn wsX12_count (wsV RX12 187 RX12 yX12_weight wsX12_weight) := goodIn_app (goodIn_of _ (by decide +kernel)) ggX12_count_X12_weight
theorem dX12_count_0 : decode cX12_count 0 = .ok (.iconst 0, 1) := by decide +kernel
theorem dX12_count_1 : decode cX12_count 1 = .ok (.istore_n 2, 1) := by decide +kernel
theorem dX12_count_2 : decode cX12_count 2 = .ok (.iconst 0, 1) := by decide +kernel
theorem dX12_count_3 : decode cX12_count 3 = .ok (.istore_n 3, 1) := by decide +kernel
theorem dX12_count_4 : decode cX12_count 4 = .ok (.iload_n 3, 1) := by decide +kernel
theorem dX12_count_5 : decode cX12_count 5 = .ok (.aload_n 0, 1) := by decide +kernel
theorem dX12_count_6 : decode cX12_count 6 = .ok (.getfield 7, 3) := by decide +kernel
theorem dX12_count_9 : decode cX12_count 9 = .ok (.iconst 4, 1) := by decide +kernel
theorem dX12_count_10 : decode cX12_count 10 = .ok (.iaload, 1) := by decide +kernel
theorem dX12_count_11 : decode cX12_count 11 = .ok (.if_icmp .ge 25, 3) := by decide +kernel
theorem dX12_count_14 : decode cX12_count 14 = .ok (.iload_n 2, 1) := by decide +kernel
theorem dX12_count_15 : decode cX12_count 15 = .ok (.aload_n 0, 1) := by decide +kernel
theorem dX12_count_16 : decode cX12_count 16 = .ok (.iload_n 3, 1) := by decide +kernel
theorem dX12_count_17 : decode cX12_count 17 = .ok (.invokevirtual 181, 3) := by decide +kernel
theorem dX12_count_20 : decode cX12_count 20 = .ok (.ifCond .eq 7, 3) := by decide +kernel
theorem dX12_count_23 : decode cX12_count 23 = .ok (.iconst 1, 1) := by decide +kernel
theorem dX12_count_24 : decode cX12_count 24 = .ok (.goto 4, 3) := by decide +kernel
theorem dX12_count_27 : decode cX12_count 27 = .ok (.iconst 0, 1) := by decide +kernel
theorem dX12_count_28 : decode cX12_count 28 = .ok (.iadd, 1) := by decide +kernel
theorem dX12_count_29 : decode cX12_count 29 = .ok (.istore_n 2, 1) := by decide +kernel
theorem dX12_count_30 : decode cX12_count 30 = .ok (.iinc 3 1, 3) := by decide +kernel
theorem dX12_count_33 : decode cX12_count 33 = .ok (.goto (-29), 3) := by decide +kernel
theorem dX12_count_36 : decode cX12_count 36 = .ok (.iload_n 1, 1) := by decide +kernel
theorem dX12_count_37 : decode cX12_count 37 = .ok (.tableswitch 118 0 9 #[55, 62, 69, 71, 78, 85, 92, 100, 105, 110], 55) := by decide +kernel
theorem dX12_count_92 : decode cX12_count 92 = .ok (.aload_n 0, 1) := by decide +kernel
theorem dX12_count_93 : decode cX12_count 93 = .ok (.getfield 7, 3) := by decide +kernel
theorem dX12_count_96 : decode cX12_count 96 = .ok (.iconst 3, 1) := by decide +kernel
theorem dX12_count_97 : decode cX12_count 97 = .ok (.iaload, 1) := by decide +kernel
theorem dX12_count_98 : decode cX12_count 98 = .ok (.ireturn, 1) := by decide +kernel
theorem dX12_count_99 : decode cX12_count 99 = .ok (.aload_n 0, 1) := by decide +kernel
theorem dX12_count_100 : decode cX12_count 100 = .ok (.getfield 7, 3) := by decide +kernel
theorem dX12_count_103 : decode cX12_count 103 = .ok (.iconst 4, 1) := by decide +kernel
theorem dX12_count_104 : decode cX12_count 104 = .ok (.iaload, 1) := by decide +kernel
theorem dX12_count_105 : decode cX12_count 105 = .ok (.ireturn, 1) := by decide +kernel
theorem dX12_count_106 : decode cX12_count 106 = .ok (.iload_n 2, 1) := by decide +kernel
theorem dX12_count_107 : decode cX12_count 107 = .ok (.ireturn, 1) := by decide +kernel
theorem dX12_count_108 : decode cX12_count 108 = .ok (.aload_n 0, 1) := by decide +kernel
theorem dX12_count_109 : decode cX12_count 109 = .ok (.getfield 7, 3) := by decide +kernel
theorem dX12_count_112 : decode cX12_count 112 = .ok (.iconst 5, 1) := by decide +kernel
theorem dX12_count_113 : decode cX12_count 113 = .ok (.iaload, 1) := by decide +kernel
theorem dX12_count_114 : decode cX12_count 114 = .ok (.ireturn, 1) := by decide +kernel
theorem dX12_count_115 : decode cX12_count 115 = .ok (.aload_n 0, 1) := by decide +kernel
theorem dX12_count_116 : decode cX12_count 116 = .ok (.getfield 7, 3) := by decide +kernel
theorem dX12_count_119 : decode cX12_count 119 = .ok (.iconst 0, 1) := by decide +kernel
theorem dX12_count_120 : decode cX12_count 120 = .ok (.iaload, 1) := by decide +kernel
theorem dX12_count_121 : decode cX12_count 121 = .ok (.ireturn, 1) := by decide +kernel
theorem dX12_count_122 : decode cX12_count 122 = .ok (.aload_n 0, 1) := by decide +kernel
theorem dX12_count_123 : decode cX12_count 123 = .ok (.getfield 7, 3) := by decide +kernel
theorem dX12_count_126 : decode cX12_count 126 = .ok (.iconst 1, 1) := by decide +kernel
theorem dX12_count_127 : decode cX12_count 127 = .ok (.iaload, 1) := by decide +kernel
theorem dX12_count_128 : decode cX12_count 128 = .ok (.ireturn, 1) := by decide +kernel
theorem dX12_count_129 : decode cX12_count 129 = .ok (.aload_n 0, 1) := by decide +kernel
theorem dX12_count_130 : decode cX12_count 130 = .ok (.getfield 7, 3) := by decide +kernel
theorem dX12_count_133 : decode cX12_count 133 = .ok (.bipush 7, 2) := by decide +kernel
theorem dX12_count_135 : decode cX12_count 135 = .ok (.iaload, 1) := by decide +kernel
theorem dX12_count_136 : decode cX12_count 136 = .ok (.ireturn, 1) := by decide +kernel
theorem dX12_count_137 : decode cX12_count 137 = .ok (.aload_n 0, 1) := by decide +kernel
theorem dX12_count_138 : decode cX12_count 138 = .ok (.invokevirtual 184, 3) := by decide +kernel
theorem dX12_count_141 : decode cX12_count 141 = .ok (.ireturn, 1) := by decide +kernel
theorem dX12_count_142 : decode cX12_count 142 = .ok (.aload_n 0, 1) := by decide +kernel
theorem dX12_count_143 : decode cX12_count 143 = .ok (.invokevirtual 187, 3) := by decide +kernel
theorem dX12_count_146 : decode cX12_count 146 = .ok (.ireturn, 1) := by decide +kernel
theorem dX12_count_147 : decode cX12_count 147 = .ok (.aload_n 0, 1) := by decide +kernel
theorem dX12_count_148 : decode cX12_count 148 = .ok (.getfield 7, 3) := by decide +kernel
theorem dX12_count_151 : decode cX12_count 151 = .ok (.bipush 15, 2) := by decide +kernel
theorem dX12_count_153 : decode cX12_count 153 = .ok (.iaload, 1) := by decide +kernel
theorem dX12_count_154 : decode cX12_count 154 = .ok (.ireturn, 1) := by decide +kernel
theorem dX12_count_155 : decode cX12_count 155 = .ok (.ldc 217, 2) := by decide +kernel
theorem dX12_count_157 : decode cX12_count 157 = .ok (.ireturn, 1) := by decide +kernel
set_option maxRecDepth 20000 in
theorem ggX12_image_X12_isIn : GoodIn wsX12_image wsX12_isIn := goodIn_r _ [6] (by decide +kernel) (by decide +kernel)
set_option maxRecDepth 20000 in
theorem gX12_image_X12_isIn : GoodIn wsX12_image (va_wsS RX12 114 yX12_isIn wsX12_isIn) := goodIn_app (goodIn_of _ (by decide +kernel)) ggX12_image_X12_isIn
theorem dX12_image_0 : decode cX12_image 0 = .ok (.iload_n 1, 1) := by decide +kernel
theorem dX12_image_1 : decode cX12_image 1 = .ok (.iconst 0, 1) := by decide +kernel
theorem dX12_image_2 : decode cX12_image 2 = .ok (.iconst 2, 1) := by decide +kernel
theorem dX12_image_3 : decode cX12_image 3 = .ok (.invokestatic 114, 3) := by decide +kernel
theorem dX12_image_6 : decode cX12_image 6 = .ok (.ifCond .ne 5, 3) := by decide +kernel
theorem dX12_image_9 : decode cX12_image 9 = .ok (.iconst 0, 1) := by decide +kernel
theorem dX12_image_10 : decode cX12_image 10 = .ok (.ireturn, 1) := by decide +kernel
theorem dX12_image_11 : decode cX12_image 11 = .ok (.aload_n 0, 1) := by decide +kernel
theorem dX12_image_12 : decode cX12_image 12 = .ok (.getfield 13, 3) := by decide +kernel
theorem dX12_image_15 : decode cX12_image 15 = .ok (.iload_n 1, 1) := by decide +kernel
theorem dX12_image_16 : decode cX12_image 16 = .ok (.iconst 1, 1) := by decide +kernel
theorem dX12_image_17 : decode cX12_image 17 = .ok (.bastore, 1) := by decide +kernel
theorem dX12_image_18 : decode cX12_image 18 = .ok (.iconst 0, 1) := by decide +kernel
theorem dX12_image_19 : decode cX12_image 19 = .ok (.istore_n 2, 1) := by decide +kernel
theorem dX12_image_20 : decode cX12_image 20 = .ok (.iload_n 2, 1) := by decide +kernel
theorem dX12_image_21 : decode cX12_image 21 = .ok (.sipush 2790, 3) := by decide +kernel
theorem dX12_image_24 : decode cX12_image 24 = .ok (.if_icmp .ge 29, 3) := by decide +kernel
theorem dX12_image_27 : decode cX12_image 27 = .ok (.aload_n 0, 1) := by decide +kernel
theorem dX12_image_28 : decode cX12_image 28 = .ok (.getfield 7, 3) := by decide +kernel
theorem dX12_image_31 : decode cX12_image 31 = .ok (.sipush 2790, 3) := by decide +kernel
theorem dX12_image_34 : decode cX12_image 34 = .ok (.iload_n 1, 1) := by decide +kernel
theorem dX12_image_35 : decode cX12_image 35 = .ok (.iconst 1, 1) := by decide +kernel
theorem dX12_image_36 : decode cX12_image 36 = .ok (.iadd, 1) := by decide +kernel
theorem dX12_image_37 : decode cX12_image 37 = .ok (.imul, 1) := by decide +kernel
theorem dX12_image_38 : decode cX12_image 38 = .ok (.iload_n 2, 1) := by decide +kernel
theorem dX12_image_39 : decode cX12_image 39 = .ok (.iadd, 1) := by decide +kernel
theorem dX12_image_40 : decode cX12_image 40 = .ok (.aload_n 0, 1) := by decide +kernel
theorem dX12_image_41 : decode cX12_image 41 = .ok (.getfield 7, 3) := by decide +kernel
theorem dX12_image_44 : decode cX12_image 44 = .ok (.iload_n 2, 1) := by decide +kernel
theorem dX12_image_45 : decode cX12_image 45 = .ok (.iaload, 1) := by decide +kernel
theorem dX12_image_46 : decode cX12_image 46 = .ok (.iastore, 1) := by decide +kernel
theorem dX12_image_47 : decode cX12_image 47 = .ok (.iinc 2 1, 3) := by decide +kernel
theorem dX12_image_50 : decode cX12_image 50 = .ok (.goto (-30), 3) := by decide +kernel
theorem dX12_image_53 : decode cX12_image 53 = .ok (.iconst 1, 1) := by decide +kernel
theorem dX12_image_54 : decode cX12_image 54 = .ok (.ireturn, 1) := by decide +kernel
set_option maxRecDepth 20000 in
theorem ggX12_again_X12_isIn : GoodIn wsX12_again wsX12_isIn := goodIn_r _ [6] (by decide +kernel) (by decide +kernel)
set_option maxRecDepth 20000 in
theorem gX12_again_X12_isIn : GoodIn wsX12_again (va_wsS RX12 114 yX12_isIn wsX12_isIn) := goodIn_app (goodIn_of _ (by decide +kernel)) ggX12_again_X12_isIn
theorem dX12_again_0 : decode cX12_again 0 = .ok (.iload_n 1, 1) := by decide +kernel
theorem dX12_again_1 : decode cX12_again 1 = .ok (.iconst 0, 1) := by decide +kernel
theorem dX12_again_2 : decode cX12_again 2 = .ok (.iconst 2, 1) := by decide +kernel
theorem dX12_again_3 : decode cX12_again 3 = .ok (.invokestatic 114, 3) := by decide +kernel
theorem dX12_again_6 : decode cX12_again 6 = .ok (.ifCond .eq 12, 3) := by decide +kernel
theorem dX12_again_9 : decode cX12_again 9 = .ok (.aload_n 0, 1) := by decide +kernel
theorem dX12_again_10 : decode cX12_again 10 = .ok (.getfield 13, 3) := by decide +kernel
theorem dX12_again_13 : decode cX12_again 13 = .ok (.iload_n 1, 1) := by decide +kernel
theorem dX12_again_14 : decode cX12_again 14 = .ok (.baload, 1) := by decide +kernel
theorem dX12_again_15 : decode cX12_again 15 = .ok (.ifCond .ne 5, 3) := by decide +kernel
theorem dX12_again_18 : decode cX12_again 18 = .ok (.iconst 0, 1) := by decide +kernel
theorem dX12_again_19 : decode cX12_again 19 = .ok (.ireturn, 1) := by decide +kernel
theorem dX12_again_20 : decode cX12_again 20 = .ok (.iconst 0, 1) := by decide +kernel
theorem dX12_again_21 : decode cX12_again 21 = .ok (.istore_n 2, 1) := by decide +kernel
theorem dX12_again_22 : decode cX12_again 22 = .ok (.iload_n 2, 1) := by decide +kernel
theorem dX12_again_23 : decode cX12_again 23 = .ok (.sipush 2790, 3) := by decide +kernel
theorem dX12_again_26 : decode cX12_again 26 = .ok (.if_icmp .ge 29, 3) := by decide +kernel
theorem dX12_again_29 : decode cX12_again 29 = .ok (.aload_n 0, 1) := by decide +kernel
theorem dX12_again_30 : decode cX12_again 30 = .ok (.getfield 7, 3) := by decide +kernel
theorem dX12_again_33 : decode cX12_again 33 = .ok (.iload_n 2, 1) := by decide +kernel
theorem dX12_again_34 : decode cX12_again 34 = .ok (.aload_n 0, 1) := by decide +kernel
theorem dX12_again_35 : decode cX12_again 35 = .ok (.getfield 7, 3) := by decide +kernel
theorem dX12_again_38 : decode cX12_again 38 = .ok (.sipush 2790, 3) := by decide +kernel
theorem dX12_again_41 : decode cX12_again 41 = .ok (.iload_n 1, 1) := by decide +kernel
theorem dX12_again_42 : decode cX12_again 42 = .ok (.iconst 1, 1) := by decide +kernel
theorem dX12_again_43 : decode cX12_again 43 = .ok (.iadd, 1) := by decide +kernel
theorem dX12_again_44 : decode cX12_again 44 = .ok (.imul, 1) := by decide +kernel
theorem dX12_again_45 : decode cX12_again 45 = .ok (.iload_n 2, 1) := by decide +kernel
theorem dX12_again_46 : decode cX12_again 46 = .ok (.iadd, 1) := by decide +kernel
theorem dX12_again_47 : decode cX12_again 47 = .ok (.iaload, 1) := by decide +kernel
theorem dX12_again_48 : decode cX12_again 48 = .ok (.iastore, 1) := by decide +kernel
theorem dX12_again_49 : decode cX12_again 49 = .ok (.iinc 2 1, 3) := by decide +kernel
theorem dX12_again_52 : decode cX12_again 52 = .ok (.goto (-30), 3) := by decide +kernel
theorem dX12_again_55 : decode cX12_again 55 = .ok (.iconst 1, 1) := by decide +kernel
theorem dX12_again_56 : decode cX12_again 56 = .ok (.ireturn, 1) := by decide +kernel
