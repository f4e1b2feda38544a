theorem dL_isSame_0 : decode cL_isSame 0 = .ok (.aload_n 0, 1) := by decide +kernel
theorem dL_isSame_1 : decode cL_isSame 1 = .ok (.iload_n 1, 1) := by decide +kernel
theorem dL_isSame_2 : decode cL_isSame 2 = .ok (.invokevirtual 50, 3) := by decide +kernel
theorem dL_isSame_5 : decode cL_isSame 5 = .ok (.istore_n 2, 1) := by decide +kernel
theorem dL_isSame_6 : decode cL_isSame 6 = .ok (.iload_n 2, 1) := by decide +kernel
theorem dL_isSame_7 : decode cL_isSame 7 = .ok (.ifCond .lt 14, 3) := by decide +kernel
theorem dL_isSame_10 : decode cL_isSame 10 = .ok (.aload_n 0, 1) := by decide +kernel
theorem dL_isSame_11 : decode cL_isSame 11 = .ok (.iload_n 1, 1) := by decide +kernel
theorem dL_isSame_12 : decode cL_isSame 12 = .ok (.bipush 6, 2) := by decide +kernel
theorem dL_isSame_14 : decode cL_isSame 14 = .ok (.invokevirtual 18, 3) := by decide +kernel
theorem dL_isSame_17 : decode cL_isSame 17 = .ok (.iconst 1, 1) := by decide +kernel
theorem dL_isSame_18 : decode cL_isSame 18 = .ok (.if_icmp .ne 5, 3) := by decide +kernel
theorem dL_isSame_21 : decode cL_isSame 21 = .ok (.iconst 1, 1) := by decide +kernel
theorem dL_isSame_22 : decode cL_isSame 22 = .ok (.ireturn, 1) := by decide +kernel
theorem dL_isSame_23 : decode cL_isSame 23 = .ok (.aload_n 0, 1) := by decide +kernel
theorem dL_isSame_24 : decode cL_isSame 24 = .ok (.invokestatic 65, 3) := by decide +kernel
theorem dL_isSame_27 : decode cL_isSame 27 = .ok (.lstore_n 3, 1) := by decide +kernel
theorem dL_isSame_28 : decode cL_isSame 28 = .ok (.aload_n 0, 1) := by decide +kernel
theorem dL_isSame_29 : decode cL_isSame 29 = .ok (.bipush 9, 2) := by decide +kernel
theorem dL_isSame_31 : decode cL_isSame 31 = .ok (.invokevirtual 12, 3) := by decide +kernel
theorem dL_isSame_34 : decode cL_isSame 34 = .ok (.istore 5, 2) := by decide +kernel
theorem dL_isSame_36 : decode cL_isSame 36 = .ok (.aload_n 0, 1) := by decide +kernel
theorem dL_isSame_37 : decode cL_isSame 37 = .ok (.iload_n 1, 1) := by decide +kernel
theorem dL_isSame_38 : decode cL_isSame 38 = .ok (.iconst 0, 1) := by decide +kernel
theorem dL_isSame_39 : decode cL_isSame 39 = .ok (.invokevirtual 18, 3) := by decide +kernel
theorem dL_isSame_42 : decode cL_isSame 42 = .ok (.istore 6, 2) := by decide +kernel
theorem dL_isSame_44 : decode cL_isSame 44 = .ok (.iload_n 2, 1) := by decide +kernel
theorem dL_isSame_45 : decode cL_isSame 45 = .ok (.iload 6, 2) := by decide +kernel
theorem dL_isSame_47 : decode cL_isSame 47 = .ok (.if_icmp .eq 29, 3) := by decide +kernel
theorem dL_isSame_50 : decode cL_isSame 50 = .ok (.aload_n 0, 1) := by decide +kernel
theorem dL_isSame_51 : decode cL_isSame 51 = .ok (.iload_n 1, 1) := by decide +kernel
theorem dL_isSame_52 : decode cL_isSame 52 = .ok (.iload_n 2, 1) := by decide +kernel
theorem dL_isSame_53 : decode cL_isSame 53 = .ok (.invokevirtual 31, 3) := by decide +kernel
theorem dL_isSame_56 : decode cL_isSame 56 = .ok (.iload 6, 2) := by decide +kernel
theorem dL_isSame_58 : decode cL_isSame 58 = .ok (.if_icmp .ne 18, 3) := by decide +kernel
theorem dL_isSame_61 : decode cL_isSame 61 = .ok (.aload_n 0, 1) := by decide +kernel
theorem dL_isSame_62 : decode cL_isSame 62 = .ok (.bipush 9, 2) := by decide +kernel
theorem dL_isSame_64 : decode cL_isSame 64 = .ok (.invokevirtual 12, 3) := by decide +kernel
theorem dL_isSame_67 : decode cL_isSame 67 = .ok (.iload 5, 2) := by decide +kernel
theorem dL_isSame_69 : decode cL_isSame 69 = .ok (.if_icmp .ne 7, 3) := by decide +kernel
theorem dL_isSame_72 : decode cL_isSame 72 = .ok (.iconst 1, 1) := by decide +kernel
theorem dL_isSame_73 : decode cL_isSame 73 = .ok (.goto 4, 3) := by decide +kernel
theorem dL_isSame_76 : decode cL_isSame 76 = .ok (.iconst 0, 1) := by decide +kernel
theorem dL_isSame_77 : decode cL_isSame 77 = .ok (.istore 7, 2) := by decide +kernel
theorem dL_isSame_79 : decode cL_isSame 79 = .ok (.iload 7, 2) := by decide +kernel
theorem dL_isSame_81 : decode cL_isSame 81 = .ok (.ifCond .eq 23, 3) := by decide +kernel
theorem dL_isSame_84 : decode cL_isSame 84 = .ok (.aload_n 0, 1) := by decide +kernel
theorem dL_isSame_85 : decode cL_isSame 85 = .ok (.invokevirtual 69, 3) := by decide +kernel
theorem dL_isSame_88 : decode cL_isSame 88 = .ok (.ifCond .lt 16, 3) := by decide +kernel
theorem dL_isSame_91 : decode cL_isSame 91 = .ok (.aload_n 0, 1) := by decide +kernel
theorem dL_isSame_92 : decode cL_isSame 92 = .ok (.invokestatic 65, 3) := by decide +kernel
theorem dL_isSame_95 : decode cL_isSame 95 = .ok (.lload_n 3, 1) := by decide +kernel
theorem dL_isSame_96 : decode cL_isSame 96 = .ok (.lcmp, 1) := by decide +kernel
theorem dL_isSame_97 : decode cL_isSame 97 = .ok (.ifCond .ne 7, 3) := by decide +kernel
theorem dL_isSame_100 : decode cL_isSame 100 = .ok (.iconst 1, 1) := by decide +kernel
theorem dL_isSame_101 : decode cL_isSame 101 = .ok (.goto 4, 3) := by decide +kernel
theorem dL_isSame_104 : decode cL_isSame 104 = .ok (.iconst 0, 1) := by decide +kernel
theorem dL_isSame_105 : decode cL_isSame 105 = .ok (.ireturn, 1) := by decide +kernel
theorem dL_law_0 : decode cL_law 0 = .ok (.new 13, 3) := by decide +kernel
theorem dL_law_3 : decode cL_law 3 = .ok (.dup, 1) := by decide +kernel
theorem dL_law_4 : decode cL_law 4 = .ok (.invokespecial 72, 3) := by decide +kernel
theorem dL_law_7 : decode cL_law 7 = .ok (.astore_n 1, 1) := by decide +kernel
theorem dL_law_8 : decode cL_law 8 = .ok (.aload_n 1, 1) := by decide +kernel
theorem dL_law_9 : decode cL_law 9 = .ok (.invokevirtual 69, 3) := by decide +kernel
theorem dL_law_12 : decode cL_law 12 = .ok (.bipush (-5), 2) := by decide +kernel
theorem dL_law_14 : decode cL_law 14 = .ok (.if_icmp .ne 37, 3) := by decide +kernel
theorem dL_law_17 : decode cL_law 17 = .ok (.aload_n 1, 1) := by decide +kernel
theorem dL_law_18 : decode cL_law 18 = .ok (.invokevirtual 34, 3) := by decide +kernel
theorem dL_law_21 : decode cL_law 21 = .ok (.bipush (-5), 2) := by decide +kernel
theorem dL_law_23 : decode cL_law 23 = .ok (.if_icmp .ne 28, 3) := by decide +kernel
theorem dL_law_26 : decode cL_law 26 = .ok (.aload_n 1, 1) := by decide +kernel
theorem dL_law_27 : decode cL_law 27 = .ok (.invokevirtual 47, 3) := by decide +kernel
theorem dL_law_30 : decode cL_law 30 = .ok (.bipush (-5), 2) := by decide +kernel
theorem dL_law_32 : decode cL_law 32 = .ok (.if_icmp .ne 19, 3) := by decide +kernel
theorem dL_law_35 : decode cL_law 35 = .ok (.aload_n 1, 1) := by decide +kernel
theorem dL_law_36 : decode cL_law 36 = .ok (.invokevirtual 73, 3) := by decide +kernel
theorem dL_law_39 : decode cL_law 39 = .ok (.ifCond .ne 12, 3) := by decide +kernel
theorem dL_law_42 : decode cL_law 42 = .ok (.aload_n 1, 1) := by decide +kernel
theorem dL_law_43 : decode cL_law 43 = .ok (.invokevirtual 76, 3) := by decide +kernel
theorem dL_law_46 : decode cL_law 46 = .ok (.bipush (-5), 2) := by decide +kernel
theorem dL_law_48 : decode cL_law 48 = .ok (.if_icmp .eq 5, 3) := by decide +kernel
theorem dL_law_51 : decode cL_law 51 = .ok (.iconst 0, 1) := by decide +kernel
theorem dL_law_52 : decode cL_law 52 = .ok (.ireturn, 1) := by decide +kernel
theorem dL_law_53 : decode cL_law 53 = .ok (.iconst 0, 1) := by decide +kernel
theorem dL_law_54 : decode cL_law 54 = .ok (.istore_n 2, 1) := by decide +kernel
theorem dL_law_55 : decode cL_law 55 = .ok (.iload_n 2, 1) := by decide +kernel
theorem dL_law_56 : decode cL_law 56 = .ok (.bipush 44, 2) := by decide +kernel
theorem dL_law_58 : decode cL_law 58 = .ok (.if_icmp .ge 237, 3) := by decide +kernel
theorem dL_law_61 : decode cL_law 61 = .ok (.aload_n 0, 1) := by decide +kernel
theorem dL_law_62 : decode cL_law 62 = .ok (.iconst 2, 1) := by decide +kernel
theorem dL_law_63 : decode cL_law 63 = .ok (.iload_n 2, 1) := by decide +kernel
theorem dL_law_64 : decode cL_law 64 = .ok (.imul, 1) := by decide +kernel
theorem dL_law_65 : decode cL_law 65 = .ok (.invokestatic 79, 3) := by decide +kernel
theorem dL_law_68 : decode cL_law 68 = .ok (.istore_n 3, 1) := by decide +kernel
theorem dL_law_69 : decode cL_law 69 = .ok (.iload_n 2, 1) := by decide +kernel
theorem dL_law_70 : decode cL_law 70 = .ok (.iconst 4, 1) := by decide +kernel
theorem dL_law_71 : decode cL_law 71 = .ok (.if_icmp .ge 10, 3) := by decide +kernel
theorem dL_law_74 : decode cL_law 74 = .ok (.iload_n 3, 1) := by decide +kernel
theorem dL_law_75 : decode cL_law 75 = .ok (.bipush (-16), 2) := by decide +kernel
theorem dL_law_77 : decode cL_law 77 = .ok (.iand, 1) := by decide +kernel
theorem dL_law_78 : decode cL_law 78 = .ok (.goto 4, 3) := by decide +kernel
theorem dL_law_81 : decode cL_law 81 = .ok (.iload_n 3, 1) := by decide +kernel
theorem dL_law_82 : decode cL_law 82 = .ok (.istore_n 3, 1) := by decide +kernel
theorem dL_law_83 : decode cL_law 83 = .ok (.aload_n 0, 1) := by decide +kernel
theorem dL_law_84 : decode cL_law 84 = .ok (.iconst 2, 1) := by decide +kernel
theorem dL_law_85 : decode cL_law 85 = .ok (.iload_n 2, 1) := by decide +kernel
theorem dL_law_86 : decode cL_law 86 = .ok (.imul, 1) := by decide +kernel
theorem dL_law_87 : decode cL_law 87 = .ok (.iconst 1, 1) := by decide +kernel
theorem dL_law_88 : decode cL_law 88 = .ok (.iadd, 1) := by decide +kernel
theorem dL_law_89 : decode cL_law 89 = .ok (.invokestatic 79, 3) := by decide +kernel
theorem dL_law_92 : decode cL_law 92 = .ok (.istore 4, 2) := by decide +kernel
theorem dL_law_94 : decode cL_law 94 = .ok (.iload_n 2, 1) := by decide +kernel
theorem dL_law_95 : decode cL_law 95 = .ok (.bipush 10, 2) := by decide +kernel
theorem dL_law_97 : decode cL_law 97 = .ok (.if_icmp .ne 8, 3) := by decide +kernel
theorem dL_law_100 : decode cL_law 100 = .ok (.aload_n 1, 1) := by decide +kernel
theorem dL_law_101 : decode cL_law 101 = .ok (.invokevirtual 73, 3) := by decide +kernel
theorem dL_law_104 : decode cL_law 104 = .ok (.pop, 1) := by decide +kernel
theorem dL_law_105 : decode cL_law 105 = .ok (.aload_n 1, 1) := by decide +kernel
theorem dL_law_106 : decode cL_law 106 = .ok (.invokestatic 65, 3) := by decide +kernel
theorem dL_law_109 : decode cL_law 109 = .ok (.lstore 5, 2) := by decide +kernel
theorem dL_law_111 : decode cL_law 111 = .ok (.aload_n 1, 1) := by decide +kernel
theorem dL_law_112 : decode cL_law 112 = .ok (.bipush 15, 2) := by decide +kernel
theorem dL_law_114 : decode cL_law 114 = .ok (.invokevirtual 12, 3) := by decide +kernel
theorem dL_law_117 : decode cL_law 117 = .ok (.istore 7, 2) := by decide +kernel
theorem dL_law_119 : decode cL_law 119 = .ok (.aload_n 1, 1) := by decide +kernel
theorem dL_law_120 : decode cL_law 120 = .ok (.iload_n 3, 1) := by decide +kernel
theorem dL_law_121 : decode cL_law 121 = .ok (.iload 4, 2) := by decide +kernel
theorem dL_law_123 : decode cL_law 123 = .ok (.invokestatic 83, 3) := by decide +kernel
theorem dL_law_126 : decode cL_law 126 = .ok (.istore 8, 2) := by decide +kernel
theorem dL_law_128 : decode cL_law 128 = .ok (.aload_n 1, 1) := by decide +kernel
theorem dL_law_129 : decode cL_law 129 = .ok (.invokestatic 65, 3) := by decide +kernel
theorem dL_law_132 : decode cL_law 132 = .ok (.lstore 9, 2) := by decide +kernel
theorem dL_law_134 : decode cL_law 134 = .ok (.iload 8, 2) := by decide +kernel
theorem dL_law_136 : decode cL_law 136 = .ok (.ifCond .ge 25, 3) := by decide +kernel
theorem dL_law_139 : decode cL_law 139 = .ok (.lload 9, 2) := by decide +kernel
theorem dL_law_141 : decode cL_law 141 = .ok (.lload 5, 2) := by decide +kernel
theorem dL_law_143 : decode cL_law 143 = .ok (.lcmp, 1) := by decide +kernel
theorem dL_law_144 : decode cL_law 144 = .ok (.ifCond .ne 40, 3) := by decide +kernel
theorem dL_law_147 : decode cL_law 147 = .ok (.aload_n 1, 1) := by decide +kernel
theorem dL_law_148 : decode cL_law 148 = .ok (.bipush 15, 2) := by decide +kernel
theorem dL_law_150 : decode cL_law 150 = .ok (.invokevirtual 12, 3) := by decide +kernel
theorem dL_law_153 : decode cL_law 153 = .ok (.iload 7, 2) := by decide +kernel
theorem dL_law_155 : decode cL_law 155 = .ok (.if_icmp .eq 31, 3) := by decide +kernel
theorem dL_law_158 : decode cL_law 158 = .ok (.goto 26, 3) := by decide +kernel
theorem dL_law_161 : decode cL_law 161 = .ok (.aload_n 1, 1) := by decide +kernel
theorem dL_law_162 : decode cL_law 162 = .ok (.bipush 15, 2) := by decide +kernel
theorem dL_law_164 : decode cL_law 164 = .ok (.invokevirtual 12, 3) := by decide +kernel
theorem dL_law_167 : decode cL_law 167 = .ok (.iload 7, 2) := by decide +kernel
theorem dL_law_169 : decode cL_law 169 = .ok (.iconst 4, 1) := by decide +kernel
theorem dL_law_170 : decode cL_law 170 = .ok (.if_icmp .ge 10, 3) := by decide +kernel
theorem dL_law_173 : decode cL_law 173 = .ok (.iload 7, 2) := by decide +kernel
theorem dL_law_175 : decode cL_law 175 = .ok (.iconst 1, 1) := by decide +kernel
theorem dL_law_176 : decode cL_law 176 = .ok (.iadd, 1) := by decide +kernel
theorem dL_law_177 : decode cL_law 177 = .ok (.goto 4, 3) := by decide +kernel
theorem dL_law_180 : decode cL_law 180 = .ok (.iconst 4, 1) := by decide +kernel
theorem dL_law_181 : decode cL_law 181 = .ok (.if_icmp .eq 5, 3) := by decide +kernel
theorem dL_law_184 : decode cL_law 184 = .ok (.iconst 0, 1) := by decide +kernel
theorem dL_law_185 : decode cL_law 185 = .ok (.ireturn, 1) := by decide +kernel
theorem dL_law_186 : decode cL_law 186 = .ok (.iload 8, 2) := by decide +kernel
theorem dL_law_188 : decode cL_law 188 = .ok (.ifCond .lt 65, 3) := by decide +kernel
theorem dL_law_191 : decode cL_law 191 = .ok (.iload_n 3, 1) := by decide +kernel
theorem dL_law_192 : decode cL_law 192 = .ok (.bipush 10, 2) := by decide +kernel
theorem dL_law_194 : decode cL_law 194 = .ok (.ishr, 1) := by decide +kernel
theorem dL_law_195 : decode cL_law 195 = .ok (.iconst 1, 1) := by decide +kernel
theorem dL_law_196 : decode cL_law 196 = .ok (.iand, 1) := by decide +kernel
theorem dL_law_197 : decode cL_law 197 = .ok (.ifCond .ne 56, 3) := by decide +kernel
theorem dL_law_200 : decode cL_law 200 = .ok (.aload_n 1, 1) := by decide +kernel
theorem dL_law_201 : decode cL_law 201 = .ok (.bipush 15, 2) := by decide +kernel
theorem dL_law_203 : decode cL_law 203 = .ok (.invokevirtual 12, 3) := by decide +kernel
theorem dL_law_206 : decode cL_law 206 = .ok (.iconst 1, 1) := by decide +kernel
theorem dL_law_207 : decode cL_law 207 = .ok (.isub, 1) := by decide +kernel
theorem dL_law_208 : decode cL_law 208 = .ok (.istore 11, 2) := by decide +kernel
theorem dL_law_210 : decode cL_law 210 = .ok (.aload_n 1, 1) := by decide +kernel
theorem dL_law_211 : decode cL_law 211 = .ok (.invokevirtual 69, 3) := by decide +kernel
theorem dL_law_214 : decode cL_law 214 = .ok (.iload 11, 2) := by decide +kernel
theorem dL_law_216 : decode cL_law 216 = .ok (.if_icmp .ne 35, 3) := by decide +kernel
theorem dL_law_219 : decode cL_law 219 = .ok (.aload_n 1, 1) := by decide +kernel
theorem dL_law_220 : decode cL_law 220 = .ok (.invokestatic 65, 3) := by decide +kernel
theorem dL_law_223 : decode cL_law 223 = .ok (.lload 5, 2) := by decide +kernel
theorem dL_law_225 : decode cL_law 225 = .ok (.lcmp, 1) := by decide +kernel
theorem dL_law_226 : decode cL_law 226 = .ok (.ifCond .ne 25, 3) := by decide +kernel
theorem dL_law_229 : decode cL_law 229 = .ok (.aload_n 1, 1) := by decide +kernel
theorem dL_law_230 : decode cL_law 230 = .ok (.iload_n 3, 1) := by decide +kernel
theorem dL_law_231 : decode cL_law 231 = .ok (.iload 4, 2) := by decide +kernel
theorem dL_law_233 : decode cL_law 233 = .ok (.invokestatic 83, 3) := by decide +kernel
theorem dL_law_236 : decode cL_law 236 = .ok (.iload 8, 2) := by decide +kernel
theorem dL_law_238 : decode cL_law 238 = .ok (.if_icmp .ne 13, 3) := by decide +kernel
theorem dL_law_241 : decode cL_law 241 = .ok (.aload_n 1, 1) := by decide +kernel
theorem dL_law_242 : decode cL_law 242 = .ok (.invokestatic 65, 3) := by decide +kernel
theorem dL_law_245 : decode cL_law 245 = .ok (.lload 9, 2) := by decide +kernel
theorem dL_law_247 : decode cL_law 247 = .ok (.lcmp, 1) := by decide +kernel
theorem dL_law_248 : decode cL_law 248 = .ok (.ifCond .eq 5, 3) := by decide +kernel
theorem dL_law_251 : decode cL_law 251 = .ok (.iconst 0, 1) := by decide +kernel
theorem dL_law_252 : decode cL_law 252 = .ok (.ireturn, 1) := by decide +kernel
theorem dL_law_253 : decode cL_law 253 = .ok (.aload_n 1, 1) := by decide +kernel
theorem dL_law_254 : decode cL_law 254 = .ok (.invokestatic 87, 3) := by decide +kernel
theorem dL_law_257 : decode cL_law 257 = .ok (.ifCond .eq 30, 3) := by decide +kernel
theorem dL_law_260 : decode cL_law 260 = .ok (.aload_n 1, 1) := by decide +kernel
theorem dL_law_261 : decode cL_law 261 = .ok (.iconst 5, 1) := by decide +kernel
theorem dL_law_262 : decode cL_law 262 = .ok (.invokevirtual 12, 3) := by decide +kernel
theorem dL_law_265 : decode cL_law 265 = .ok (.ifCond .le 24, 3) := by decide +kernel
theorem dL_law_268 : decode cL_law 268 = .ok (.aload_n 1, 1) := by decide +kernel
theorem dL_law_269 : decode cL_law 269 = .ok (.iload 4, 2) := by decide +kernel
theorem dL_law_271 : decode cL_law 271 = .ok (.iconst 2, 1) := by decide +kernel
theorem dL_law_272 : decode cL_law 272 = .ok (.ishr, 1) := by decide +kernel
theorem dL_law_273 : decode cL_law 273 = .ok (.aload_n 1, 1) := by decide +kernel
theorem dL_law_274 : decode cL_law 274 = .ok (.iconst 5, 1) := by decide +kernel
theorem dL_law_275 : decode cL_law 275 = .ok (.invokevirtual 12, 3) := by decide +kernel
theorem dL_law_278 : decode cL_law 278 = .ok (.invokestatic 22, 3) := by decide +kernel
theorem dL_law_281 : decode cL_law 281 = .ok (.invokestatic 91, 3) := by decide +kernel
theorem dL_law_284 : decode cL_law 284 = .ok (.ifCond .ne 5, 3) := by decide +kernel
theorem dL_law_287 : decode cL_law 287 = .ok (.iconst 0, 1) := by decide +kernel
theorem dL_law_288 : decode cL_law 288 = .ok (.ireturn, 1) := by decide +kernel
theorem dL_law_289 : decode cL_law 289 = .ok (.iinc 2 1, 3) := by decide +kernel
theorem dL_law_292 : decode cL_law 292 = .ok (.goto (-237), 3) := by decide +kernel
theorem dL_law_295 : decode cL_law 295 = .ok (.iconst 1, 1) := by decide +kernel
theorem dL_law_296 : decode cL_law 296 = .ok (.ireturn, 1) := by decide +kernel
set_option maxRecDepth 20000 in
theorem ggL_isSame_X3_sameSeal : GoodIn wsL_isSame wsX3_sameSeal := goodIn_r _ [5, 6, 7, 8, 9, 10, 11, 12, 13, 14, 15, 16, 17, 18, 19, 20, 21, 22, 23, 24, 25, 26, 27, 28, 170, 171, 172, 173, 174, 175, 176, 177, 178, 179, 180, 181, 182, 183, 184, 185, 186] (by decide +kernel) (by decide +kernel)
set_option maxRecDepth 20000 in
theorem gL_isSame_X3_sameSeal : GoodIn wsL_isSame (wsV RL 50 RX3 yX3_sameSeal wsX3_sameSeal) := goodIn_app (goodIn_of _ (by decide +kernel)) ggL_isSame_X3_sameSeal
set_option maxRecDepth 20000 in
theorem ggL_isSame_X3_cart : GoodIn wsL_isSame wsX3_cart := goodIn_r _ [32, 6, 33, 34, 35, 10, 36, 12, 37, 38, 27, 28, 39, 40, 13, 14, 15, 16, 17, 41, 42, 43, 44, 45, 46, 18, 19, 20, 21, 22, 23, 24, 25, 26, 47, 48, 49, 50, 51, 52, 53, 54, 55, 56, 57, 58, 59, 60, 61, 62, 63, 64, 65, 66, 67, 68, 69, 70, 71, 72, 73, 74, 170, 171, 172, 173, 174, 175, 176, 177, 178, 179, 180, 181, 182, 183, 184, 185, 186] (by decide +kernel) (by decide +kernel)
set_option maxRecDepth 20000 in
theorem gL_isSame_X3_cart : GoodIn wsL_isSame (wsV RL 18 RX3 yX3_cart wsX3_cart) := goodIn_app (goodIn_of _ (by decide +kernel)) ggL_isSame_X3_cart
set_option maxRecDepth 20000 in
theorem ggL_isSame_L_told : GoodIn wsL_isSame wsL_told := goodIn_r _ [78, 79, 80, 81, 82, 83, 4, 84, 85, 86, 6, 87, 88, 89, 90, 91, 92, 93, 94, 95, 96, 97, 98, 99, 100, 101, 10, 102, 26, 17, 37, 39, 74, 103, 55, 56, 57, 58, 59, 60, 61, 104, 105, 106, 107, 47, 48, 49, 50, 28, 12, 22, 23, 24, 25, 27, 108, 109, 110, 111, 40, 112, 113, 114, 115, 116, 117, 118, 119, 51, 52, 53, 54, 13, 14, 15, 16, 44, 45, 46, 120, 121, 122, 123, 62, 63, 64, 65, 124, 125, 126, 127, 38, 41, 42, 43, 29, 30, 31, 32, 33, 34, 35, 36, 18, 19, 20, 21, 66, 67, 68, 69, 70, 71, 72, 73, 170, 171, 172, 173, 174, 175, 187, 188, 189, 190, 191, 192, 193, 194, 195, 176, 177, 178, 179, 180, 181, 182, 183, 184, 185, 186] (by decide +kernel) (by decide +kernel)
set_option maxRecDepth 20000 in
theorem gL_isSame_L_told : GoodIn wsL_isSame (va_wsS RL 65 yL_told wsL_told) := goodIn_app (goodIn_of _ (by decide +kernel)) ggL_isSame_L_told
set_option maxRecDepth 20000 in
theorem ggL_isSame_X3_total : GoodIn wsL_isSame wsX3_total := goodIn_r _ [84, 85, 86, 6, 87, 88, 89, 90, 91, 92, 93, 94, 95, 96, 97, 98, 99, 100, 101, 10, 102, 26, 17, 37, 39, 74, 103, 55, 56, 57, 58, 59, 60, 61, 104, 105, 106, 107, 47, 48, 49, 50, 28, 12, 22, 23, 24, 25, 27, 108, 109, 110, 111, 40, 112, 113, 114, 115, 116, 117, 118, 119, 51, 52, 53, 54, 13, 14, 15, 16, 44, 45, 46, 120, 121, 122, 123, 62, 63, 64, 65, 124, 125, 126, 127, 38, 41, 42, 43, 170, 171, 172, 173, 174, 175, 187, 188, 189, 190, 191, 192, 193, 194, 195, 176, 177, 178, 179, 180, 181, 182, 183, 184, 185, 186] (by decide +kernel) (by decide +kernel)
set_option maxRecDepth 20000 in
theorem gL_isSame_X3_total : GoodIn wsL_isSame (wsV RL 12 RX3 yX3_total wsX3_total) := goodIn_app (goodIn_of _ (by decide +kernel)) ggL_isSame_X3_total
set_option maxRecDepth 20000 in
theorem ggL_isSame_X3_alter : GoodIn wsL_isSame wsX3_alter := goodIn_r _ [131, 132, 6, 133, 134, 135, 10, 136, 26, 137, 138, 139, 140, 12, 38, 27, 28, 40, 17, 37, 74, 39, 103, 141, 142, 143, 144, 13, 14, 15, 16, 145, 146, 147, 41, 42, 43, 44, 45, 46, 148, 149, 150, 4, 151, 85, 152, 153, 154, 90, 155, 92, 156, 157, 158, 159, 160, 161, 170, 171, 172, 173, 174, 175, 176, 177, 178, 179, 180, 181, 182, 183, 184, 185, 186, 187, 188] (by decide +kernel) (by decide +kernel)
set_option maxRecDepth 20000 in
theorem gL_isSame_X3_alter : GoodIn wsL_isSame (wsV RL 31 RX3 yX3_alter wsX3_alter) := goodIn_app (goodIn_of _ (by decide +kernel)) ggL_isSame_X3_alter
set_option maxRecDepth 20000 in
theorem ggL_isSame_X3_undo : GoodIn wsL_isSame wsX3_undo := goodIn_r _ [165, 85, 6, 166, 167, 168, 90, 169, 92, 156, 161, 134, 135, 10, 136, 26, 137, 138, 139, 140, 12, 38, 27, 28, 40, 17, 37, 74, 39, 103, 170, 171, 172, 173, 174, 175, 187, 188, 176, 177, 178, 179, 180, 181, 182, 183, 184, 185, 186] (by decide +kernel) (by decide +kernel)
set_option maxRecDepth 20000 in
theorem gL_isSame_X3_undo : GoodIn wsL_isSame (wsV RL 69 RX3 yX3_undo wsX3_undo) := goodIn_app (goodIn_of _ (by decide +kernel)) ggL_isSame_X3_undo
