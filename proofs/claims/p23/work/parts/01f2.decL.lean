set_option maxRecDepth 20000 in
theorem ggL_holds_X3_total : GoodIn wsL_holds wsX3_total := goodIn_r _ [5, 6, 7, 8, 9, 10, 11, 12, 13, 14, 15, 16, 17, 18, 19, 20, 21, 22, 23, 24, 25, 26, 27, 28, 29, 30, 31, 32, 33, 34, 35, 36, 37, 38, 39, 40, 41, 42, 43, 44, 45, 46, 47, 48, 49, 50, 51, 52, 53, 54, 55, 56, 57, 58, 59, 60, 61, 62, 63, 64, 65, 66, 67, 68, 69, 70, 71, 72, 73, 74, 75, 76, 77, 78, 79, 80, 81, 82, 83, 84, 85, 86, 87, 88, 89, 90, 91, 92, 93, 181, 182, 183, 184, 185, 186, 187, 188, 189, 190, 191, 192, 193, 194, 195, 196, 197, 198, 199, 200, 201, 202, 203, 204, 205, 206] (by decide +kernel) (by decide +kernel)
set_option maxRecDepth 20000 in
theorem gL_holds_X3_total : GoodIn wsL_holds (wsV RL 12 RX3 yX3_total wsX3_total) := goodIn_app (goodIn_of _ (by decide +kernel)) ggL_holds_X3_total
set_option maxRecDepth 20000 in
theorem ggL_holds_X3_cart : GoodIn wsL_holds wsX3_cart := goodIn_r _ [97, 8, 98, 99, 100, 24, 101, 48, 28, 90, 53, 47, 29, 58, 71, 72, 73, 74, 27, 91, 92, 93, 75, 76, 77, 102, 103, 104, 105, 49, 50, 51, 52, 26, 43, 44, 45, 46, 67, 68, 69, 70, 32, 33, 34, 35, 36, 37, 38, 82, 83, 84, 85, 106, 107, 108, 109, 110, 111, 112, 113, 30, 181, 182, 183, 184, 185, 186, 196, 197, 198, 199, 200, 201, 202, 203, 204, 205, 206] (by decide +kernel) (by decide +kernel)
set_option maxRecDepth 20000 in
theorem gL_holds_X3_cart : GoodIn wsL_holds (wsV RL 18 RX3 yX3_cart wsX3_cart) := goodIn_app (goodIn_of _ (by decide +kernel)) ggL_holds_X3_cart
set_option maxRecDepth 20000 in
theorem ggL_holds_X3_chain : GoodIn wsL_holds wsX3_chain := goodIn_r _ [117, 8, 118, 119, 120, 24, 121, 53, 71, 72, 73, 74, 27, 181, 182, 183, 184, 185, 186, 196, 197, 198, 199, 200, 201, 202, 203, 204, 205, 206] (by decide +kernel) (by decide +kernel)
set_option maxRecDepth 20000 in
theorem gL_holds_X3_chain : GoodIn wsL_holds (wsV RL 53 RX3 yX3_chain wsX3_chain) := goodIn_app (goodIn_of _ (by decide +kernel)) ggL_holds_X3_chain
set_option maxRecDepth 20000 in
theorem ggL_holds_X3_brokenIn : GoodIn wsL_holds wsX3_brokenIn := goodIn_r _ [125, 8, 126, 127, 128, 24, 129, 53, 71, 72, 73, 74, 27, 43, 44, 45, 46, 47, 48, 49, 50, 51, 52, 26, 181, 182, 183, 184, 185, 186, 196, 197, 198, 199, 200, 201, 202, 203, 204, 205, 206] (by decide +kernel) (by decide +kernel)
set_option maxRecDepth 20000 in
theorem gL_holds_X3_brokenIn : GoodIn wsL_holds (wsV RL 56 RX3 yX3_brokenIn wsX3_brokenIn) := goodIn_app (goodIn_of _ (by decide +kernel)) ggL_holds_X3_brokenIn
set_option maxRecDepth 20000 in
theorem ggL_holds_X3_ifOpened : GoodIn wsL_holds wsX3_ifOpened := goodIn_r _ [133, 8, 134, 135, 136, 24, 137, 28, 26, 71, 72, 73, 74, 27, 91, 92, 93, 75, 76, 77, 138, 139, 140, 141, 30, 29, 142, 143, 144, 145, 53, 43, 44, 45, 46, 47, 48, 49, 50, 51, 52, 32, 33, 34, 35, 36, 37, 38, 146, 147, 148, 149, 150, 151, 65, 152, 153, 154, 155, 156, 157, 158, 159, 160, 181, 182, 183, 184, 185, 186, 196, 197, 198, 199, 200, 201, 202, 203, 204, 205, 206] (by decide +kernel) (by decide +kernel)
set_option maxRecDepth 20000 in
theorem gL_holds_X3_ifOpened : GoodIn wsL_holds (wsV RL 59 RX3 yX3_ifOpened wsX3_ifOpened) := goodIn_app (goodIn_of _ (by decide +kernel)) ggL_holds_X3_ifOpened
set_option maxRecDepth 20000 in
theorem ggL_holds_X3_fewestOpenings : GoodIn wsL_holds wsX3_fewestOpenings := goodIn_r _ [164, 8, 165, 166, 167, 24, 168, 27, 169, 170, 171, 172, 29, 28, 173, 174, 175, 176, 75, 76, 77, 91, 92, 93, 142, 143, 144, 145, 53, 71, 72, 73, 74, 43, 44, 45, 46, 47, 48, 49, 50, 51, 52, 26, 32, 33, 34, 35, 36, 37, 38, 177, 178, 179, 180, 181, 182, 183, 184, 185, 186, 196, 197, 198, 199, 200, 201, 202, 203, 204, 205, 206] (by decide +kernel) (by decide +kernel)
set_option maxRecDepth 20000 in
theorem gL_holds_X3_fewestOpenings : GoodIn wsL_holds (wsV RL 62 RX3 yX3_fewestOpenings wsX3_fewestOpenings) := goodIn_app (goodIn_of _ (by decide +kernel)) ggL_holds_X3_fewestOpenings
theorem dL_holds_0 : decode cL_holds 0 = .ok (.aload_n 0, 1) := by decide +kernel
theorem dL_holds_1 : decode cL_holds 1 = .ok (.iconst 5, 1) := by decide +kernel
theorem dL_holds_2 : decode cL_holds 2 = .ok (.invokevirtual 12, 3) := by decide +kernel
theorem dL_holds_5 : decode cL_holds 5 = .ok (.istore_n 1, 1) := by decide +kernel
theorem dL_holds_6 : decode cL_holds 6 = .ok (.iconst 0, 1) := by decide +kernel
theorem dL_holds_7 : decode cL_holds 7 = .ok (.istore_n 2, 1) := by decide +kernel
theorem dL_holds_8 : decode cL_holds 8 = .ok (.iconst 0, 1) := by decide +kernel
theorem dL_holds_9 : decode cL_holds 9 = .ok (.istore_n 3, 1) := by decide +kernel
theorem dL_holds_10 : decode cL_holds 10 = .ok (.iconst 0, 1) := by decide +kernel
theorem dL_holds_11 : decode cL_holds 11 = .ok (.istore 4, 2) := by decide +kernel
theorem dL_holds_13 : decode cL_holds 13 = .ok (.iconst 0, 1) := by decide +kernel
theorem dL_holds_14 : decode cL_holds 14 = .ok (.istore 5, 2) := by decide +kernel
theorem dL_holds_16 : decode cL_holds 16 = .ok (.iconst 0, 1) := by decide +kernel
theorem dL_holds_17 : decode cL_holds 17 = .ok (.istore 6, 2) := by decide +kernel
theorem dL_holds_19 : decode cL_holds 19 = .ok (.iconst 0, 1) := by decide +kernel
theorem dL_holds_20 : decode cL_holds 20 = .ok (.istore 7, 2) := by decide +kernel
theorem dL_holds_22 : decode cL_holds 22 = .ok (.iconst 0, 1) := by decide +kernel
theorem dL_holds_23 : decode cL_holds 23 = .ok (.istore 8, 2) := by decide +kernel
theorem dL_holds_25 : decode cL_holds 25 = .ok (.iload 8, 2) := by decide +kernel
theorem dL_holds_27 : decode cL_holds 27 = .ok (.iload_n 1, 1) := by decide +kernel
theorem dL_holds_28 : decode cL_holds 28 = .ok (.if_icmp .ge 374, 3) := by decide +kernel
theorem dL_holds_31 : decode cL_holds 31 = .ok (.aload_n 0, 1) := by decide +kernel
theorem dL_holds_32 : decode cL_holds 32 = .ok (.iload 8, 2) := by decide +kernel
theorem dL_holds_34 : decode cL_holds 34 = .ok (.iconst 2, 1) := by decide +kernel
theorem dL_holds_35 : decode cL_holds 35 = .ok (.invokevirtual 18, 3) := by decide +kernel
theorem dL_holds_38 : decode cL_holds 38 = .ok (.istore 9, 2) := by decide +kernel
theorem dL_holds_40 : decode cL_holds 40 = .ok (.aload_n 0, 1) := by decide +kernel
theorem dL_holds_41 : decode cL_holds 41 = .ok (.iload 8, 2) := by decide +kernel
theorem dL_holds_43 : decode cL_holds 43 = .ok (.bipush 9, 2) := by decide +kernel
theorem dL_holds_45 : decode cL_holds 45 = .ok (.invokevirtual 18, 3) := by decide +kernel
theorem dL_holds_48 : decode cL_holds 48 = .ok (.istore 10, 2) := by decide +kernel
theorem dL_holds_50 : decode cL_holds 50 = .ok (.aload_n 0, 1) := by decide +kernel
theorem dL_holds_51 : decode cL_holds 51 = .ok (.iload 8, 2) := by decide +kernel
theorem dL_holds_53 : decode cL_holds 53 = .ok (.iconst 5, 1) := by decide +kernel
theorem dL_holds_54 : decode cL_holds 54 = .ok (.invokevirtual 18, 3) := by decide +kernel
theorem dL_holds_57 : decode cL_holds 57 = .ok (.iconst 1, 1) := by decide +kernel
theorem dL_holds_58 : decode cL_holds 58 = .ok (.if_icmp .ne 7, 3) := by decide +kernel
theorem dL_holds_61 : decode cL_holds 61 = .ok (.iconst 1, 1) := by decide +kernel
theorem dL_holds_62 : decode cL_holds 62 = .ok (.goto 4, 3) := by decide +kernel
theorem dL_holds_65 : decode cL_holds 65 = .ok (.iconst 0, 1) := by decide +kernel
theorem dL_holds_66 : decode cL_holds 66 = .ok (.istore 11, 2) := by decide +kernel
theorem dL_holds_68 : decode cL_holds 68 = .ok (.iload_n 2, 1) := by decide +kernel
theorem dL_holds_69 : decode cL_holds 69 = .ok (.aload_n 0, 1) := by decide +kernel
theorem dL_holds_70 : decode cL_holds 70 = .ok (.iload 8, 2) := by decide +kernel
theorem dL_holds_72 : decode cL_holds 72 = .ok (.bipush 6, 2) := by decide +kernel
theorem dL_holds_74 : decode cL_holds 74 = .ok (.invokevirtual 18, 3) := by decide +kernel
theorem dL_holds_77 : decode cL_holds 77 = .ok (.iadd, 1) := by decide +kernel
theorem dL_holds_78 : decode cL_holds 78 = .ok (.istore_n 2, 1) := by decide +kernel
theorem dL_holds_79 : decode cL_holds 79 = .ok (.iload_n 3, 1) := by decide +kernel
theorem dL_holds_80 : decode cL_holds 80 = .ok (.aload_n 0, 1) := by decide +kernel
theorem dL_holds_81 : decode cL_holds 81 = .ok (.iload 8, 2) := by decide +kernel
theorem dL_holds_83 : decode cL_holds 83 = .ok (.bipush 7, 2) := by decide +kernel
theorem dL_holds_85 : decode cL_holds 85 = .ok (.invokevirtual 18, 3) := by decide +kernel
theorem dL_holds_88 : decode cL_holds 88 = .ok (.iadd, 1) := by decide +kernel
theorem dL_holds_89 : decode cL_holds 89 = .ok (.istore_n 3, 1) := by decide +kernel
theorem dL_holds_90 : decode cL_holds 90 = .ok (.iload 4, 2) := by decide +kernel
theorem dL_holds_92 : decode cL_holds 92 = .ok (.iload 10, 2) := by decide +kernel
theorem dL_holds_94 : decode cL_holds 94 = .ok (.iadd, 1) := by decide +kernel
theorem dL_holds_95 : decode cL_holds 95 = .ok (.istore 4, 2) := by decide +kernel
theorem dL_holds_97 : decode cL_holds 97 = .ok (.iload 5, 2) := by decide +kernel
theorem dL_holds_99 : decode cL_holds 99 = .ok (.aload_n 0, 1) := by decide +kernel
theorem dL_holds_100 : decode cL_holds 100 = .ok (.iload 8, 2) := by decide +kernel
theorem dL_holds_102 : decode cL_holds 102 = .ok (.bipush 11, 2) := by decide +kernel
theorem dL_holds_104 : decode cL_holds 104 = .ok (.invokevirtual 18, 3) := by decide +kernel
theorem dL_holds_107 : decode cL_holds 107 = .ok (.iadd, 1) := by decide +kernel
theorem dL_holds_108 : decode cL_holds 108 = .ok (.istore 5, 2) := by decide +kernel
theorem dL_holds_110 : decode cL_holds 110 = .ok (.iload 6, 2) := by decide +kernel
theorem dL_holds_112 : decode cL_holds 112 = .ok (.aload_n 0, 1) := by decide +kernel
theorem dL_holds_113 : decode cL_holds 113 = .ok (.iload 8, 2) := by decide +kernel
theorem dL_holds_115 : decode cL_holds 115 = .ok (.bipush 10, 2) := by decide +kernel
theorem dL_holds_117 : decode cL_holds 117 = .ok (.invokevirtual 18, 3) := by decide +kernel
theorem dL_holds_120 : decode cL_holds 120 = .ok (.ifCond .ne 7, 3) := by decide +kernel
theorem dL_holds_123 : decode cL_holds 123 = .ok (.iconst 1, 1) := by decide +kernel
theorem dL_holds_124 : decode cL_holds 124 = .ok (.goto 4, 3) := by decide +kernel
theorem dL_holds_127 : decode cL_holds 127 = .ok (.iconst 0, 1) := by decide +kernel
theorem dL_holds_128 : decode cL_holds 128 = .ok (.iadd, 1) := by decide +kernel
theorem dL_holds_129 : decode cL_holds 129 = .ok (.istore 6, 2) := by decide +kernel
theorem dL_holds_131 : decode cL_holds 131 = .ok (.iload 7, 2) := by decide +kernel
theorem dL_holds_133 : decode cL_holds 133 = .ok (.aload_n 0, 1) := by decide +kernel
theorem dL_holds_134 : decode cL_holds 134 = .ok (.iload 8, 2) := by decide +kernel
theorem dL_holds_136 : decode cL_holds 136 = .ok (.bipush 6, 2) := by decide +kernel
theorem dL_holds_138 : decode cL_holds 138 = .ok (.invokevirtual 18, 3) := by decide +kernel
theorem dL_holds_141 : decode cL_holds 141 = .ok (.aload_n 0, 1) := by decide +kernel
theorem dL_holds_142 : decode cL_holds 142 = .ok (.iload 8, 2) := by decide +kernel
theorem dL_holds_144 : decode cL_holds 144 = .ok (.bipush 7, 2) := by decide +kernel
theorem dL_holds_146 : decode cL_holds 146 = .ok (.invokevirtual 18, 3) := by decide +kernel
theorem dL_holds_149 : decode cL_holds 149 = .ok (.iadd, 1) := by decide +kernel
theorem dL_holds_150 : decode cL_holds 150 = .ok (.ifCond .ne 7, 3) := by decide +kernel
theorem dL_holds_153 : decode cL_holds 153 = .ok (.iconst 1, 1) := by decide +kernel
theorem dL_holds_154 : decode cL_holds 154 = .ok (.goto 4, 3) := by decide +kernel
theorem dL_holds_157 : decode cL_holds 157 = .ok (.iconst 0, 1) := by decide +kernel
theorem dL_holds_158 : decode cL_holds 158 = .ok (.iadd, 1) := by decide +kernel
theorem dL_holds_159 : decode cL_holds 159 = .ok (.istore 7, 2) := by decide +kernel
theorem dL_holds_161 : decode cL_holds 161 = .ok (.iconst 0, 1) := by decide +kernel
theorem dL_holds_162 : decode cL_holds 162 = .ok (.istore 12, 2) := by decide +kernel
theorem dL_holds_164 : decode cL_holds 164 = .ok (.iconst 0, 1) := by decide +kernel
theorem dL_holds_165 : decode cL_holds 165 = .ok (.istore 13, 2) := by decide +kernel
theorem dL_holds_167 : decode cL_holds 167 = .ok (.iload 13, 2) := by decide +kernel
theorem dL_holds_169 : decode cL_holds 169 = .ok (.iload 10, 2) := by decide +kernel
theorem dL_holds_171 : decode cL_holds 171 = .ok (.if_icmp .ge 37, 3) := by decide +kernel
theorem dL_holds_174 : decode cL_holds 174 = .ok (.iload 12, 2) := by decide +kernel
theorem dL_holds_176 : decode cL_holds 176 = .ok (.ifCond .ne 19, 3) := by decide +kernel
theorem dL_holds_179 : decode cL_holds 179 = .ok (.aload_n 0, 1) := by decide +kernel
theorem dL_holds_180 : decode cL_holds 180 = .ok (.aload_n 0, 1) := by decide +kernel
theorem dL_holds_181 : decode cL_holds 181 = .ok (.iload 8, 2) := by decide +kernel
theorem dL_holds_183 : decode cL_holds 183 = .ok (.iload 13, 2) := by decide +kernel
theorem dL_holds_185 : decode cL_holds 185 = .ok (.invokevirtual 53, 3) := by decide +kernel
theorem dL_holds_188 : decode cL_holds 188 = .ok (.iconst 5, 1) := by decide +kernel
theorem dL_holds_189 : decode cL_holds 189 = .ok (.invokevirtual 18, 3) := by decide +kernel
theorem dL_holds_192 : decode cL_holds 192 = .ok (.ifCond .ne 7, 3) := by decide +kernel
theorem dL_holds_195 : decode cL_holds 195 = .ok (.iconst 1, 1) := by decide +kernel
theorem dL_holds_196 : decode cL_holds 196 = .ok (.goto 4, 3) := by decide +kernel
theorem dL_holds_199 : decode cL_holds 199 = .ok (.iconst 0, 1) := by decide +kernel
theorem dL_holds_200 : decode cL_holds 200 = .ok (.istore 12, 2) := by decide +kernel
theorem dL_holds_202 : decode cL_holds 202 = .ok (.iinc 13 1, 3) := by decide +kernel
theorem dL_holds_205 : decode cL_holds 205 = .ok (.goto (-38), 3) := by decide +kernel
theorem dL_holds_208 : decode cL_holds 208 = .ok (.iload 11, 2) := by decide +kernel
theorem dL_holds_210 : decode cL_holds 210 = .ok (.aload_n 0, 1) := by decide +kernel
theorem dL_holds_211 : decode cL_holds 211 = .ok (.iload 8, 2) := by decide +kernel
theorem dL_holds_213 : decode cL_holds 213 = .ok (.iconst 3, 1) := by decide +kernel
theorem dL_holds_214 : decode cL_holds 214 = .ok (.invokevirtual 18, 3) := by decide +kernel
theorem dL_holds_217 : decode cL_holds 217 = .ok (.aload_n 0, 1) := by decide +kernel
theorem dL_holds_218 : decode cL_holds 218 = .ok (.iload 8, 2) := by decide +kernel
theorem dL_holds_220 : decode cL_holds 220 = .ok (.iconst 4, 1) := by decide +kernel
theorem dL_holds_221 : decode cL_holds 221 = .ok (.invokevirtual 18, 3) := by decide +kernel
theorem dL_holds_224 : decode cL_holds 224 = .ok (.if_icmp .ne 7, 3) := by decide +kernel
theorem dL_holds_227 : decode cL_holds 227 = .ok (.iconst 1, 1) := by decide +kernel
theorem dL_holds_228 : decode cL_holds 228 = .ok (.goto 4, 3) := by decide +kernel
theorem dL_holds_231 : decode cL_holds 231 = .ok (.iconst 0, 1) := by decide +kernel
theorem dL_holds_232 : decode cL_holds 232 = .ok (.if_icmp .ne 66, 3) := by decide +kernel
theorem dL_holds_235 : decode cL_holds 235 = .ok (.iload 9, 2) := by decide +kernel
theorem dL_holds_237 : decode cL_holds 237 = .ok (.iload 8, 2) := by decide +kernel
theorem dL_holds_239 : decode cL_holds 239 = .ok (.if_icmp .ge 59, 3) := by decide +kernel
theorem dL_holds_242 : decode cL_holds 242 = .ok (.iload 10, 2) := by decide +kernel
theorem dL_holds_244 : decode cL_holds 244 = .ok (.iload 9, 2) := by decide +kernel
theorem dL_holds_246 : decode cL_holds 246 = .ok (.ifCond .ge 7, 3) := by decide +kernel
theorem dL_holds_249 : decode cL_holds 249 = .ok (.iconst 1, 1) := by decide +kernel
theorem dL_holds_250 : decode cL_holds 250 = .ok (.goto 13, 3) := by decide +kernel
theorem dL_holds_253 : decode cL_holds 253 = .ok (.iconst 1, 1) := by decide +kernel
theorem dL_holds_254 : decode cL_holds 254 = .ok (.aload_n 0, 1) := by decide +kernel
theorem dL_holds_255 : decode cL_holds 255 = .ok (.iload 9, 2) := by decide +kernel
theorem dL_holds_257 : decode cL_holds 257 = .ok (.bipush 9, 2) := by decide +kernel
theorem dL_holds_259 : decode cL_holds 259 = .ok (.invokevirtual 18, 3) := by decide +kernel
theorem dL_holds_262 : decode cL_holds 262 = .ok (.iadd, 1) := by decide +kernel
theorem dL_holds_263 : decode cL_holds 263 = .ok (.if_icmp .ne 35, 3) := by decide +kernel
theorem dL_holds_266 : decode cL_holds 266 = .ok (.aload_n 0, 1) := by decide +kernel
theorem dL_holds_267 : decode cL_holds 267 = .ok (.iload 8, 2) := by decide +kernel
theorem dL_holds_269 : decode cL_holds 269 = .ok (.iload 10, 2) := by decide +kernel
theorem dL_holds_271 : decode cL_holds 271 = .ok (.invokevirtual 53, 3) := by decide +kernel
theorem dL_holds_274 : decode cL_holds 274 = .ok (.bipush (-5), 2) := by decide +kernel
theorem dL_holds_276 : decode cL_holds 276 = .ok (.if_icmp .ne 22, 3) := by decide +kernel
theorem dL_holds_279 : decode cL_holds 279 = .ok (.aload_n 0, 1) := by decide +kernel
theorem dL_holds_280 : decode cL_holds 280 = .ok (.iload 8, 2) := by decide +kernel
theorem dL_holds_282 : decode cL_holds 282 = .ok (.invokevirtual 56, 3) := by decide +kernel
theorem dL_holds_285 : decode cL_holds 285 = .ok (.ifCond .ge 7, 3) := by decide +kernel
theorem dL_holds_288 : decode cL_holds 288 = .ok (.iconst 1, 1) := by decide +kernel
theorem dL_holds_289 : decode cL_holds 289 = .ok (.goto 4, 3) := by decide +kernel
theorem dL_holds_292 : decode cL_holds 292 = .ok (.iconst 0, 1) := by decide +kernel
theorem dL_holds_293 : decode cL_holds 293 = .ok (.iload 12, 2) := by decide +kernel
theorem dL_holds_295 : decode cL_holds 295 = .ok (.if_icmp .ne 5, 3) := by decide +kernel
theorem dL_holds_298 : decode cL_holds 298 = .ok (.iconst 0, 1) := by decide +kernel
theorem dL_holds_299 : decode cL_holds 299 = .ok (.ireturn, 1) := by decide +kernel
theorem dL_holds_300 : decode cL_holds 300 = .ok (.aload_n 0, 1) := by decide +kernel
theorem dL_holds_301 : decode cL_holds 301 = .ok (.iload 8, 2) := by decide +kernel
theorem dL_holds_303 : decode cL_holds 303 = .ok (.bipush 10, 2) := by decide +kernel
theorem dL_holds_305 : decode cL_holds 305 = .ok (.invokevirtual 18, 3) := by decide +kernel
theorem dL_holds_308 : decode cL_holds 308 = .ok (.aload_n 0, 1) := by decide +kernel
theorem dL_holds_309 : decode cL_holds 309 = .ok (.iload 8, 2) := by decide +kernel
theorem dL_holds_311 : decode cL_holds 311 = .ok (.bipush 11, 2) := by decide +kernel
theorem dL_holds_313 : decode cL_holds 313 = .ok (.invokevirtual 18, 3) := by decide +kernel
theorem dL_holds_316 : decode cL_holds 316 = .ok (.iconst 1, 1) := by decide +kernel
theorem dL_holds_317 : decode cL_holds 317 = .ok (.isub, 1) := by decide +kernel
theorem dL_holds_318 : decode cL_holds 318 = .ok (.if_icmp .gt 76, 3) := by decide +kernel
theorem dL_holds_321 : decode cL_holds 321 = .ok (.aload_n 0, 1) := by decide +kernel
theorem dL_holds_322 : decode cL_holds 322 = .ok (.iload 8, 2) := by decide +kernel
theorem dL_holds_324 : decode cL_holds 324 = .ok (.bipush 12, 2) := by decide +kernel
theorem dL_holds_326 : decode cL_holds 326 = .ok (.invokevirtual 18, 3) := by decide +kernel
theorem dL_holds_329 : decode cL_holds 329 = .ok (.ifCond .ne 7, 3) := by decide +kernel
theorem dL_holds_332 : decode cL_holds 332 = .ok (.iconst 1, 1) := by decide +kernel
theorem dL_holds_333 : decode cL_holds 333 = .ok (.goto 4, 3) := by decide +kernel
theorem dL_holds_336 : decode cL_holds 336 = .ok (.iconst 0, 1) := by decide +kernel
theorem dL_holds_337 : decode cL_holds 337 = .ok (.aload_n 0, 1) := by decide +kernel
theorem dL_holds_338 : decode cL_holds 338 = .ok (.iload 8, 2) := by decide +kernel
theorem dL_holds_340 : decode cL_holds 340 = .ok (.bipush 7, 2) := by decide +kernel
theorem dL_holds_342 : decode cL_holds 342 = .ok (.invokevirtual 18, 3) := by decide +kernel
theorem dL_holds_345 : decode cL_holds 345 = .ok (.iconst 1, 1) := by decide +kernel
theorem dL_holds_346 : decode cL_holds 346 = .ok (.if_icmp .ne 7, 3) := by decide +kernel
theorem dL_holds_349 : decode cL_holds 349 = .ok (.iconst 1, 1) := by decide +kernel
theorem dL_holds_350 : decode cL_holds 350 = .ok (.goto 4, 3) := by decide +kernel
theorem dL_holds_353 : decode cL_holds 353 = .ok (.iconst 0, 1) := by decide +kernel
theorem dL_holds_354 : decode cL_holds 354 = .ok (.if_icmp .ne 40, 3) := by decide +kernel
theorem dL_holds_357 : decode cL_holds 357 = .ok (.aload_n 0, 1) := by decide +kernel
theorem dL_holds_358 : decode cL_holds 358 = .ok (.iload 8, 2) := by decide +kernel
theorem dL_holds_360 : decode cL_holds 360 = .ok (.iconst 0, 1) := by decide +kernel
theorem dL_holds_361 : decode cL_holds 361 = .ok (.invokevirtual 59, 3) := by decide +kernel
theorem dL_holds_364 : decode cL_holds 364 = .ok (.bipush (-4), 2) := by decide +kernel
theorem dL_holds_366 : decode cL_holds 366 = .ok (.if_icmp .ne 7, 3) := by decide +kernel
theorem dL_holds_369 : decode cL_holds 369 = .ok (.iconst 1, 1) := by decide +kernel
theorem dL_holds_370 : decode cL_holds 370 = .ok (.goto 4, 3) := by decide +kernel
theorem dL_holds_373 : decode cL_holds 373 = .ok (.iconst 0, 1) := by decide +kernel
theorem dL_holds_374 : decode cL_holds 374 = .ok (.aload_n 0, 1) := by decide +kernel
theorem dL_holds_375 : decode cL_holds 375 = .ok (.iload 8, 2) := by decide +kernel
theorem dL_holds_377 : decode cL_holds 377 = .ok (.bipush 6, 2) := by decide +kernel
theorem dL_holds_379 : decode cL_holds 379 = .ok (.invokevirtual 18, 3) := by decide +kernel
theorem dL_holds_382 : decode cL_holds 382 = .ok (.iconst 1, 1) := by decide +kernel
theorem dL_holds_383 : decode cL_holds 383 = .ok (.if_icmp .ne 7, 3) := by decide +kernel
theorem dL_holds_386 : decode cL_holds 386 = .ok (.iconst 1, 1) := by decide +kernel
theorem dL_holds_387 : decode cL_holds 387 = .ok (.goto 4, 3) := by decide +kernel
theorem dL_holds_390 : decode cL_holds 390 = .ok (.iconst 0, 1) := by decide +kernel
theorem dL_holds_391 : decode cL_holds 391 = .ok (.if_icmp .eq 5, 3) := by decide +kernel
theorem dL_holds_394 : decode cL_holds 394 = .ok (.iconst 0, 1) := by decide +kernel
theorem dL_holds_395 : decode cL_holds 395 = .ok (.ireturn, 1) := by decide +kernel
theorem dL_holds_396 : decode cL_holds 396 = .ok (.iinc 8 1, 3) := by decide +kernel
theorem dL_holds_399 : decode cL_holds 399 = .ok (.goto (-374), 3) := by decide +kernel
theorem dL_holds_402 : decode cL_holds 402 = .ok (.aload_n 0, 1) := by decide +kernel
theorem dL_holds_403 : decode cL_holds 403 = .ok (.iconst 0, 1) := by decide +kernel
theorem dL_holds_404 : decode cL_holds 404 = .ok (.invokevirtual 62, 3) := by decide +kernel
theorem dL_holds_407 : decode cL_holds 407 = .ok (.istore 8, 2) := by decide +kernel
theorem dL_holds_409 : decode cL_holds 409 = .ok (.aload_n 0, 1) := by decide +kernel
theorem dL_holds_410 : decode cL_holds 410 = .ok (.bipush 6, 2) := by decide +kernel
theorem dL_holds_412 : decode cL_holds 412 = .ok (.invokevirtual 12, 3) := by decide +kernel
theorem dL_holds_415 : decode cL_holds 415 = .ok (.iload_n 2, 1) := by decide +kernel
theorem dL_holds_416 : decode cL_holds 416 = .ok (.if_icmp .ne 35, 3) := by decide +kernel
theorem dL_holds_419 : decode cL_holds 419 = .ok (.aload_n 0, 1) := by decide +kernel
theorem dL_holds_420 : decode cL_holds 420 = .ok (.bipush 7, 2) := by decide +kernel
theorem dL_holds_422 : decode cL_holds 422 = .ok (.invokevirtual 12, 3) := by decide +kernel
theorem dL_holds_425 : decode cL_holds 425 = .ok (.iload_n 3, 1) := by decide +kernel
theorem dL_holds_426 : decode cL_holds 426 = .ok (.if_icmp .ne 25, 3) := by decide +kernel
theorem dL_holds_429 : decode cL_holds 429 = .ok (.iload 4, 2) := by decide +kernel
theorem dL_holds_431 : decode cL_holds 431 = .ok (.iload 5, 2) := by decide +kernel
theorem dL_holds_433 : decode cL_holds 433 = .ok (.if_icmp .ne 18, 3) := by decide +kernel
theorem dL_holds_436 : decode cL_holds 436 = .ok (.aload_n 0, 1) := by decide +kernel
theorem dL_holds_437 : decode cL_holds 437 = .ok (.bipush 13, 2) := by decide +kernel
theorem dL_holds_439 : decode cL_holds 439 = .ok (.invokevirtual 12, 3) := by decide +kernel
theorem dL_holds_442 : decode cL_holds 442 = .ok (.iload 6, 2) := by decide +kernel
theorem dL_holds_444 : decode cL_holds 444 = .ok (.if_icmp .ne 7, 3) := by decide +kernel
theorem dL_holds_447 : decode cL_holds 447 = .ok (.iconst 1, 1) := by decide +kernel
theorem dL_holds_448 : decode cL_holds 448 = .ok (.goto 4, 3) := by decide +kernel
theorem dL_holds_451 : decode cL_holds 451 = .ok (.iconst 0, 1) := by decide +kernel
theorem dL_holds_452 : decode cL_holds 452 = .ok (.istore 9, 2) := by decide +kernel
theorem dL_holds_454 : decode cL_holds 454 = .ok (.iload 9, 2) := by decide +kernel
theorem dL_holds_456 : decode cL_holds 456 = .ok (.ifCond .eq 47, 3) := by decide +kernel
theorem dL_holds_459 : decode cL_holds 459 = .ok (.iload 8, 2) := by decide +kernel
theorem dL_holds_461 : decode cL_holds 461 = .ok (.aload_n 0, 1) := by decide +kernel
theorem dL_holds_462 : decode cL_holds 462 = .ok (.iconst 1, 1) := by decide +kernel
theorem dL_holds_463 : decode cL_holds 463 = .ok (.invokevirtual 62, 3) := by decide +kernel
theorem dL_holds_466 : decode cL_holds 466 = .ok (.if_icmp .ne 37, 3) := by decide +kernel
theorem dL_holds_469 : decode cL_holds 469 = .ok (.iload 8, 2) := by decide +kernel
theorem dL_holds_471 : decode cL_holds 471 = .ok (.ifCond .ne 7, 3) := by decide +kernel
theorem dL_holds_474 : decode cL_holds 474 = .ok (.iconst 1, 1) := by decide +kernel
theorem dL_holds_475 : decode cL_holds 475 = .ok (.goto 4, 3) := by decide +kernel
theorem dL_holds_478 : decode cL_holds 478 = .ok (.iconst 0, 1) := by decide +kernel
theorem dL_holds_479 : decode cL_holds 479 = .ok (.iload 7, 2) := by decide +kernel
theorem dL_holds_481 : decode cL_holds 481 = .ok (.ifCond .ne 7, 3) := by decide +kernel
theorem dL_holds_484 : decode cL_holds 484 = .ok (.iconst 1, 1) := by decide +kernel
theorem dL_holds_485 : decode cL_holds 485 = .ok (.goto 4, 3) := by decide +kernel
theorem dL_holds_488 : decode cL_holds 488 = .ok (.iconst 0, 1) := by decide +kernel
theorem dL_holds_489 : decode cL_holds 489 = .ok (.if_icmp .ne 14, 3) := by decide +kernel
theorem dL_holds_492 : decode cL_holds 492 = .ok (.iload 8, 2) := by decide +kernel
theorem dL_holds_494 : decode cL_holds 494 = .ok (.iload 7, 2) := by decide +kernel
theorem dL_holds_496 : decode cL_holds 496 = .ok (.if_icmp .gt 7, 3) := by decide +kernel
theorem dL_holds_499 : decode cL_holds 499 = .ok (.iconst 1, 1) := by decide +kernel
theorem dL_holds_500 : decode cL_holds 500 = .ok (.goto 4, 3) := by decide +kernel
theorem dL_holds_503 : decode cL_holds 503 = .ok (.iconst 0, 1) := by decide +kernel
theorem dL_holds_504 : decode cL_holds 504 = .ok (.ireturn, 1) := by decide +kernel
