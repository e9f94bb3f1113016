/-! decode rows of the law's methods -/
theorem dL_reads_217 : decode cL_reads 217 = .ok (.aload_n 0, 1) := by decide +kernel
theorem dL_reads_218 : decode cL_reads 218 = .ok (.invokevirtual 43, 3) := by decide +kernel
theorem dL_reads_221 : decode cL_reads 221 = .ok (.bipush (-3), 2) := by decide +kernel
theorem dL_reads_223 : decode cL_reads 223 = .ok (.if_icmp .ne 83, 3) := by decide +kernel
theorem dL_reads_226 : decode cL_reads 226 = .ok (.goto 76, 3) := by decide +kernel
theorem dL_reads_229 : decode cL_reads 229 = .ok (.aload_n 0, 1) := by decide +kernel
theorem dL_reads_230 : decode cL_reads 230 = .ok (.invokevirtual 43, 3) := by decide +kernel
theorem dL_reads_233 : decode cL_reads 233 = .ok (.iload 5, 2) := by decide +kernel
theorem dL_reads_235 : decode cL_reads 235 = .ok (.if_icmp .ne 71, 3) := by decide +kernel
theorem dL_reads_238 : decode cL_reads 238 = .ok (.aload_n 0, 1) := by decide +kernel
theorem dL_reads_239 : decode cL_reads 239 = .ok (.iload 5, 2) := by decide +kernel
theorem dL_reads_241 : decode cL_reads 241 = .ok (.iconst 0, 1) := by decide +kernel
theorem dL_reads_242 : decode cL_reads 242 = .ok (.invokevirtual 19, 3) := by decide +kernel
theorem dL_reads_245 : decode cL_reads 245 = .ok (.iload_n 1, 1) := by decide +kernel
theorem dL_reads_246 : decode cL_reads 246 = .ok (.iconst 3, 1) := by decide +kernel
theorem dL_reads_247 : decode cL_reads 247 = .ok (.irem, 1) := by decide +kernel
theorem dL_reads_248 : decode cL_reads 248 = .ok (.if_icmp .ne 58, 3) := by decide +kernel
theorem dL_reads_251 : decode cL_reads 251 = .ok (.aload_n 0, 1) := by decide +kernel
theorem dL_reads_252 : decode cL_reads 252 = .ok (.iload 5, 2) := by decide +kernel
theorem dL_reads_254 : decode cL_reads 254 = .ok (.iconst 2, 1) := by decide +kernel
theorem dL_reads_255 : decode cL_reads 255 = .ok (.invokevirtual 19, 3) := by decide +kernel
theorem dL_reads_258 : decode cL_reads 258 = .ok (.iload 4, 2) := by decide +kernel
theorem dL_reads_260 : decode cL_reads 260 = .ok (.if_icmp .ne 46, 3) := by decide +kernel
theorem dL_reads_263 : decode cL_reads 263 = .ok (.aload_n 0, 1) := by decide +kernel
theorem dL_reads_264 : decode cL_reads 264 = .ok (.iload 5, 2) := by decide +kernel
theorem dL_reads_266 : decode cL_reads 266 = .ok (.iconst 0, 1) := by decide +kernel
theorem dL_reads_267 : decode cL_reads 267 = .ok (.invokevirtual 46, 3) := by decide +kernel
theorem dL_reads_270 : decode cL_reads 270 = .ok (.iload_n 3, 1) := by decide +kernel
theorem dL_reads_271 : decode cL_reads 271 = .ok (.if_icmp .ne 35, 3) := by decide +kernel
theorem dL_reads_274 : decode cL_reads 274 = .ok (.aload_n 0, 1) := by decide +kernel
theorem dL_reads_275 : decode cL_reads 275 = .ok (.iload 5, 2) := by decide +kernel
theorem dL_reads_277 : decode cL_reads 277 = .ok (.iconst 1, 1) := by decide +kernel
theorem dL_reads_278 : decode cL_reads 278 = .ok (.invokevirtual 19, 3) := by decide +kernel
theorem dL_reads_281 : decode cL_reads 281 = .ok (.iconst 1, 1) := by decide +kernel
theorem dL_reads_282 : decode cL_reads 282 = .ok (.iload_n 1, 1) := by decide +kernel
theorem dL_reads_283 : decode cL_reads 283 = .ok (.bipush 6, 2) := by decide +kernel
theorem dL_reads_285 : decode cL_reads 285 = .ok (.ishr, 1) := by decide +kernel
theorem dL_reads_286 : decode cL_reads 286 = .ok (.iconst 1, 1) := by decide +kernel
theorem dL_reads_287 : decode cL_reads 287 = .ok (.iand, 1) := by decide +kernel
theorem dL_reads_288 : decode cL_reads 288 = .ok (.iadd, 1) := by decide +kernel
theorem dL_reads_289 : decode cL_reads 289 = .ok (.if_icmp .ne 17, 3) := by decide +kernel
theorem dL_reads_292 : decode cL_reads 292 = .ok (.aload_n 0, 1) := by decide +kernel
theorem dL_reads_293 : decode cL_reads 293 = .ok (.iload 5, 2) := by decide +kernel
theorem dL_reads_295 : decode cL_reads 295 = .ok (.iconst 3, 1) := by decide +kernel
theorem dL_reads_296 : decode cL_reads 296 = .ok (.invokevirtual 19, 3) := by decide +kernel
theorem dL_reads_299 : decode cL_reads 299 = .ok (.ifCond .ne 7, 3) := by decide +kernel
theorem dL_reads_302 : decode cL_reads 302 = .ok (.iconst 1, 1) := by decide +kernel
theorem dL_reads_303 : decode cL_reads 303 = .ok (.goto 4, 3) := by decide +kernel
theorem dL_reads_306 : decode cL_reads 306 = .ok (.iconst 0, 1) := by decide +kernel
theorem dL_reads_307 : decode cL_reads 307 = .ok (.ireturn, 1) := by decide +kernel
theorem dL_passes_0 : decode cL_passes 0 = .ok (.iconst 1, 1) := by decide +kernel
theorem dL_passes_1 : decode cL_passes 1 = .ok (.iload_n 1, 1) := by decide +kernel
theorem dL_passes_2 : decode cL_passes 2 = .ok (.bipush 9, 2) := by decide +kernel
theorem dL_passes_4 : decode cL_passes 4 = .ok (.irem, 1) := by decide +kernel
theorem dL_passes_5 : decode cL_passes 5 = .ok (.iadd, 1) := by decide +kernel
theorem dL_passes_6 : decode cL_passes 6 = .ok (.istore_n 2, 1) := by decide +kernel
theorem dL_passes_7 : decode cL_passes 7 = .ok (.iload_n 1, 1) := by decide +kernel
theorem dL_passes_8 : decode cL_passes 8 = .ok (.iconst 4, 1) := by decide +kernel
theorem dL_passes_9 : decode cL_passes 9 = .ok (.ishr, 1) := by decide +kernel
theorem dL_passes_10 : decode cL_passes 10 = .ok (.aload_n 0, 1) := by decide +kernel
theorem dL_passes_11 : decode cL_passes 11 = .ok (.iconst 1, 1) := by decide +kernel
theorem dL_passes_12 : decode cL_passes 12 = .ok (.invokevirtual 26, 3) := by decide +kernel
theorem dL_passes_15 : decode cL_passes 15 = .ok (.irem, 1) := by decide +kernel
theorem dL_passes_16 : decode cL_passes 16 = .ok (.istore_n 3, 1) := by decide +kernel
theorem dL_passes_17 : decode cL_passes 17 = .ok (.aload_n 0, 1) := by decide +kernel
theorem dL_passes_18 : decode cL_passes 18 = .ok (.iconst 3, 1) := by decide +kernel
theorem dL_passes_19 : decode cL_passes 19 = .ok (.invokevirtual 26, 3) := by decide +kernel
theorem dL_passes_22 : decode cL_passes 22 = .ok (.istore 4, 2) := by decide +kernel
theorem dL_passes_24 : decode cL_passes 24 = .ok (.iload 4, 2) := by decide +kernel
theorem dL_passes_26 : decode cL_passes 26 = .ok (.ifCond .ne 7, 3) := by decide +kernel
theorem dL_passes_29 : decode cL_passes 29 = .ok (.iconst (-1), 1) := by decide +kernel
theorem dL_passes_30 : decode cL_passes 30 = .ok (.goto 17, 3) := by decide +kernel
theorem dL_passes_33 : decode cL_passes 33 = .ok (.aload_n 0, 1) := by decide +kernel
theorem dL_passes_34 : decode cL_passes 34 = .ok (.iload_n 1, 1) := by decide +kernel
theorem dL_passes_35 : decode cL_passes 35 = .ok (.bipush 7, 2) := by decide +kernel
theorem dL_passes_37 : decode cL_passes 37 = .ok (.ishr, 1) := by decide +kernel
theorem dL_passes_38 : decode cL_passes 38 = .ok (.iload 4, 2) := by decide +kernel
theorem dL_passes_40 : decode cL_passes 40 = .ok (.irem, 1) := by decide +kernel
theorem dL_passes_41 : decode cL_passes 41 = .ok (.invokevirtual 9, 3) := by decide +kernel
theorem dL_passes_44 : decode cL_passes 44 = .ok (.bipush 10, 2) := by decide +kernel
theorem dL_passes_46 : decode cL_passes 46 = .ok (.idiv, 1) := by decide +kernel
theorem dL_passes_47 : decode cL_passes 47 = .ok (.istore 5, 2) := by decide +kernel
theorem dL_passes_49 : decode cL_passes 49 = .ok (.iload 4, 2) := by decide +kernel
theorem dL_passes_51 : decode cL_passes 51 = .ok (.ifCond .ne 7, 3) := by decide +kernel
theorem dL_passes_54 : decode cL_passes 54 = .ok (.iconst (-1), 1) := by decide +kernel
theorem dL_passes_55 : decode cL_passes 55 = .ok (.goto 17, 3) := by decide +kernel
theorem dL_passes_58 : decode cL_passes 58 = .ok (.aload_n 0, 1) := by decide +kernel
theorem dL_passes_59 : decode cL_passes 59 = .ok (.iload_n 1, 1) := by decide +kernel
theorem dL_passes_60 : decode cL_passes 60 = .ok (.bipush 7, 2) := by decide +kernel
theorem dL_passes_62 : decode cL_passes 62 = .ok (.ishr, 1) := by decide +kernel
theorem dL_passes_63 : decode cL_passes 63 = .ok (.iload 4, 2) := by decide +kernel
theorem dL_passes_65 : decode cL_passes 65 = .ok (.irem, 1) := by decide +kernel
theorem dL_passes_66 : decode cL_passes 66 = .ok (.invokevirtual 9, 3) := by decide +kernel
theorem dL_passes_69 : decode cL_passes 69 = .ok (.bipush 10, 2) := by decide +kernel
theorem dL_passes_71 : decode cL_passes 71 = .ok (.irem, 1) := by decide +kernel
theorem dL_passes_72 : decode cL_passes 72 = .ok (.istore 6, 2) := by decide +kernel
theorem dL_passes_74 : decode cL_passes 74 = .ok (.aload_n 0, 1) := by decide +kernel
theorem dL_passes_75 : decode cL_passes 75 = .ok (.iload_n 3, 1) := by decide +kernel
theorem dL_passes_76 : decode cL_passes 76 = .ok (.iload_n 2, 1) := by decide +kernel
theorem dL_passes_77 : decode cL_passes 77 = .ok (.invokevirtual 49, 3) := by decide +kernel
theorem dL_passes_80 : decode cL_passes 80 = .ok (.istore 7, 2) := by decide +kernel
theorem dL_passes_82 : decode cL_passes 82 = .ok (.aload_n 0, 1) := by decide +kernel
theorem dL_passes_83 : decode cL_passes 83 = .ok (.iload_n 3, 1) := by decide +kernel
theorem dL_passes_84 : decode cL_passes 84 = .ok (.bipush 8, 2) := by decide +kernel
theorem dL_passes_86 : decode cL_passes 86 = .ok (.invokevirtual 23, 3) := by decide +kernel
theorem dL_passes_89 : decode cL_passes 89 = .ok (.istore 8, 2) := by decide +kernel
theorem dL_passes_91 : decode cL_passes 91 = .ok (.iload 4, 2) := by decide +kernel
theorem dL_passes_93 : decode cL_passes 93 = .ok (.ifCond .ne 8, 3) := by decide +kernel
theorem dL_passes_96 : decode cL_passes 96 = .ok (.bipush (-5), 2) := by decide +kernel
theorem dL_passes_98 : decode cL_passes 98 = .ok (.goto 11, 3) := by decide +kernel
theorem dL_passes_101 : decode cL_passes 101 = .ok (.aload_n 0, 1) := by decide +kernel
theorem dL_passes_102 : decode cL_passes 102 = .ok (.iload 5, 2) := by decide +kernel
theorem dL_passes_104 : decode cL_passes 104 = .ok (.iload 6, 2) := by decide +kernel
theorem dL_passes_106 : decode cL_passes 106 = .ok (.invokevirtual 52, 3) := by decide +kernel
theorem dL_passes_109 : decode cL_passes 109 = .ok (.istore 9, 2) := by decide +kernel
theorem dL_passes_111 : decode cL_passes 111 = .ok (.iconst 0, 1) := by decide +kernel
theorem dL_passes_112 : decode cL_passes 112 = .ok (.istore 10, 2) := by decide +kernel
theorem dL_passes_114 : decode cL_passes 114 = .ok (.iconst 0, 1) := by decide +kernel
theorem dL_passes_115 : decode cL_passes 115 = .ok (.istore 11, 2) := by decide +kernel
theorem dL_passes_117 : decode cL_passes 117 = .ok (.iload 11, 2) := by decide +kernel
theorem dL_passes_119 : decode cL_passes 119 = .ok (.aload_n 0, 1) := by decide +kernel
theorem dL_passes_120 : decode cL_passes 120 = .ok (.iconst 1, 1) := by decide +kernel
theorem dL_passes_121 : decode cL_passes 121 = .ok (.invokevirtual 26, 3) := by decide +kernel
theorem dL_passes_124 : decode cL_passes 124 = .ok (.if_icmp .ge 22, 3) := by decide +kernel
theorem dL_passes_127 : decode cL_passes 127 = .ok (.iload 10, 2) := by decide +kernel
theorem dL_passes_129 : decode cL_passes 129 = .ok (.aload_n 0, 1) := by decide +kernel
theorem dL_passes_130 : decode cL_passes 130 = .ok (.iload 11, 2) := by decide +kernel
theorem dL_passes_132 : decode cL_passes 132 = .ok (.bipush 8, 2) := by decide +kernel
theorem dL_passes_134 : decode cL_passes 134 = .ok (.invokevirtual 23, 3) := by decide +kernel
theorem dL_passes_137 : decode cL_passes 137 = .ok (.isub, 1) := by decide +kernel
theorem dL_passes_138 : decode cL_passes 138 = .ok (.istore 10, 2) := by decide +kernel
theorem dL_passes_140 : decode cL_passes 140 = .ok (.iinc 11 1, 3) := by decide +kernel
theorem dL_passes_143 : decode cL_passes 143 = .ok (.goto (-26), 3) := by decide +kernel
theorem dL_passes_146 : decode cL_passes 146 = .ok (.aload_n 0, 1) := by decide +kernel
theorem dL_passes_147 : decode cL_passes 147 = .ok (.iload_n 2, 1) := by decide +kernel
theorem dL_passes_148 : decode cL_passes 148 = .ok (.invokevirtual 55, 3) := by decide +kernel
theorem dL_passes_151 : decode cL_passes 151 = .ok (.istore 11, 2) := by decide +kernel
theorem dL_passes_153 : decode cL_passes 153 = .ok (.iconst 0, 1) := by decide +kernel
theorem dL_passes_154 : decode cL_passes 154 = .ok (.istore 12, 2) := by decide +kernel
theorem dL_passes_156 : decode cL_passes 156 = .ok (.iload 12, 2) := by decide +kernel
theorem dL_passes_158 : decode cL_passes 158 = .ok (.aload_n 0, 1) := by decide +kernel
theorem dL_passes_159 : decode cL_passes 159 = .ok (.iconst 1, 1) := by decide +kernel
theorem dL_passes_160 : decode cL_passes 160 = .ok (.invokevirtual 26, 3) := by decide +kernel
theorem dL_passes_163 : decode cL_passes 163 = .ok (.if_icmp .ge 22, 3) := by decide +kernel
theorem dL_passes_166 : decode cL_passes 166 = .ok (.iload 10, 2) := by decide +kernel
theorem dL_passes_168 : decode cL_passes 168 = .ok (.aload_n 0, 1) := by decide +kernel
theorem dL_passes_169 : decode cL_passes 169 = .ok (.iload 12, 2) := by decide +kernel
theorem dL_passes_171 : decode cL_passes 171 = .ok (.bipush 8, 2) := by decide +kernel
theorem dL_passes_173 : decode cL_passes 173 = .ok (.invokevirtual 23, 3) := by decide +kernel
theorem dL_passes_176 : decode cL_passes 176 = .ok (.iadd, 1) := by decide +kernel
theorem dL_passes_177 : decode cL_passes 177 = .ok (.istore 10, 2) := by decide +kernel
theorem dL_passes_179 : decode cL_passes 179 = .ok (.iinc 12 1, 3) := by decide +kernel
theorem dL_passes_182 : decode cL_passes 182 = .ok (.goto (-26), 3) := by decide +kernel
theorem dL_passes_185 : decode cL_passes 185 = .ok (.iload 11, 2) := by decide +kernel
theorem dL_passes_187 : decode cL_passes 187 = .ok (.iload 10, 2) := by decide +kernel
theorem dL_passes_189 : decode cL_passes 189 = .ok (.if_icmp .ne 73, 3) := by decide +kernel
theorem dL_passes_192 : decode cL_passes 192 = .ok (.aload_n 0, 1) := by decide +kernel
theorem dL_passes_193 : decode cL_passes 193 = .ok (.iload_n 3, 1) := by decide +kernel
theorem dL_passes_194 : decode cL_passes 194 = .ok (.bipush 8, 2) := by decide +kernel
theorem dL_passes_196 : decode cL_passes 196 = .ok (.invokevirtual 23, 3) := by decide +kernel
theorem dL_passes_199 : decode cL_passes 199 = .ok (.iload 8, 2) := by decide +kernel
theorem dL_passes_201 : decode cL_passes 201 = .ok (.iload 7, 2) := by decide +kernel
theorem dL_passes_203 : decode cL_passes 203 = .ok (.iadd, 1) := by decide +kernel
theorem dL_passes_204 : decode cL_passes 204 = .ok (.if_icmp .ne 58, 3) := by decide +kernel
theorem dL_passes_207 : decode cL_passes 207 = .ok (.iload 9, 2) := by decide +kernel
theorem dL_passes_209 : decode cL_passes 209 = .ok (.iload_n 2, 1) := by decide +kernel
theorem dL_passes_210 : decode cL_passes 210 = .ok (.if_icmp .lt 18, 3) := by decide +kernel
theorem dL_passes_213 : decode cL_passes 213 = .ok (.aload_n 0, 1) := by decide +kernel
theorem dL_passes_214 : decode cL_passes 214 = .ok (.iload 5, 2) := by decide +kernel
theorem dL_passes_216 : decode cL_passes 216 = .ok (.iload 6, 2) := by decide +kernel
theorem dL_passes_218 : decode cL_passes 218 = .ok (.invokevirtual 52, 3) := by decide +kernel
theorem dL_passes_221 : decode cL_passes 221 = .ok (.iload 9, 2) := by decide +kernel
theorem dL_passes_223 : decode cL_passes 223 = .ok (.iload_n 2, 1) := by decide +kernel
theorem dL_passes_224 : decode cL_passes 224 = .ok (.isub, 1) := by decide +kernel
theorem dL_passes_225 : decode cL_passes 225 = .ok (.if_icmp .ne 37, 3) := by decide +kernel
theorem dL_passes_228 : decode cL_passes 228 = .ok (.iload 9, 2) := by decide +kernel
theorem dL_passes_230 : decode cL_passes 230 = .ok (.ifCond .lt 28, 3) := by decide +kernel
theorem dL_passes_233 : decode cL_passes 233 = .ok (.iload 9, 2) := by decide +kernel
theorem dL_passes_235 : decode cL_passes 235 = .ok (.iload_n 2, 1) := by decide +kernel
theorem dL_passes_236 : decode cL_passes 236 = .ok (.if_icmp .ne 22, 3) := by decide +kernel
theorem dL_passes_239 : decode cL_passes 239 = .ok (.aload_n 0, 1) := by decide +kernel
theorem dL_passes_240 : decode cL_passes 240 = .ok (.iload 5, 2) := by decide +kernel
theorem dL_passes_242 : decode cL_passes 242 = .ok (.iload 6, 2) := by decide +kernel
theorem dL_passes_244 : decode cL_passes 244 = .ok (.iconst 3, 1) := by decide +kernel
theorem dL_passes_245 : decode cL_passes 245 = .ok (.invokevirtual 15, 3) := by decide +kernel
theorem dL_passes_248 : decode cL_passes 248 = .ok (.aload_n 0, 1) := by decide +kernel
theorem dL_passes_249 : decode cL_passes 249 = .ok (.iload 5, 2) := by decide +kernel
theorem dL_passes_251 : decode cL_passes 251 = .ok (.iconst 4, 1) := by decide +kernel
theorem dL_passes_252 : decode cL_passes 252 = .ok (.invokevirtual 19, 3) := by decide +kernel
theorem dL_passes_255 : decode cL_passes 255 = .ok (.if_icmp .ne 7, 3) := by decide +kernel
theorem dL_passes_258 : decode cL_passes 258 = .ok (.iconst 1, 1) := by decide +kernel
theorem dL_passes_259 : decode cL_passes 259 = .ok (.goto 4, 3) := by decide +kernel
theorem dL_passes_262 : decode cL_passes 262 = .ok (.iconst 0, 1) := by decide +kernel
theorem dL_passes_263 : decode cL_passes 263 = .ok (.ireturn, 1) := by decide +kernel
theorem dL_acts_0 : decode cL_acts 0 = .ok (.iload_n 1, 1) := by decide +kernel
theorem dL_acts_1 : decode cL_acts 1 = .ok (.iconst 3, 1) := by decide +kernel
theorem dL_acts_2 : decode cL_acts 2 = .ok (.ishr, 1) := by decide +kernel
theorem dL_acts_3 : decode cL_acts 3 = .ok (.istore_n 2, 1) := by decide +kernel
theorem dL_acts_4 : decode cL_acts 4 = .ok (.aload_n 0, 1) := by decide +kernel
theorem dL_acts_5 : decode cL_acts 5 = .ok (.iconst 2, 1) := by decide +kernel
theorem dL_acts_6 : decode cL_acts 6 = .ok (.invokevirtual 26, 3) := by decide +kernel
theorem dL_acts_9 : decode cL_acts 9 = .ok (.istore_n 3, 1) := by decide +kernel
theorem dL_acts_10 : decode cL_acts 10 = .ok (.iload_n 3, 1) := by decide +kernel
theorem dL_acts_11 : decode cL_acts 11 = .ok (.ifCond .ne 7, 3) := by decide +kernel
theorem dL_acts_14 : decode cL_acts 14 = .ok (.iconst 0, 1) := by decide +kernel
theorem dL_acts_15 : decode cL_acts 15 = .ok (.goto 6, 3) := by decide +kernel
theorem dL_acts_18 : decode cL_acts 18 = .ok (.iload_n 2, 1) := by decide +kernel
theorem dL_acts_19 : decode cL_acts 19 = .ok (.iload_n 3, 1) := by decide +kernel
theorem dL_acts_20 : decode cL_acts 20 = .ok (.irem, 1) := by decide +kernel
theorem dL_acts_21 : decode cL_acts 21 = .ok (.istore 4, 2) := by decide +kernel
theorem dL_acts_23 : decode cL_acts 23 = .ok (.iload_n 2, 1) := by decide +kernel
theorem dL_acts_24 : decode cL_acts 24 = .ok (.aload_n 0, 1) := by decide +kernel
theorem dL_acts_25 : decode cL_acts 25 = .ok (.iconst 1, 1) := by decide +kernel
theorem dL_acts_26 : decode cL_acts 26 = .ok (.invokevirtual 26, 3) := by decide +kernel
theorem dL_acts_29 : decode cL_acts 29 = .ok (.irem, 1) := by decide +kernel
theorem dL_acts_30 : decode cL_acts 30 = .ok (.istore 5, 2) := by decide +kernel
theorem dL_acts_32 : decode cL_acts 32 = .ok (.iload_n 1, 1) := by decide +kernel
theorem dL_acts_33 : decode cL_acts 33 = .ok (.bipush 7, 2) := by decide +kernel
theorem dL_acts_35 : decode cL_acts 35 = .ok (.iand, 1) := by decide +kernel
theorem dL_acts_36 : decode cL_acts 36 = .ok (.tableswitch 405 0 4 #[36, 42, 150, 252, 329], 36) := by decide +kernel
theorem dL_acts_72 : decode cL_acts 72 = .ok (.aload_n 0, 1) := by decide +kernel
theorem dL_acts_73 : decode cL_acts 73 = .ok (.iload_n 2, 1) := by decide +kernel
theorem dL_acts_74 : decode cL_acts 74 = .ok (.invokestatic 58, 3) := by decide +kernel
theorem dL_acts_77 : decode cL_acts 77 = .ok (.ireturn, 1) := by decide +kernel
theorem dL_acts_78 : decode cL_acts 78 = .ok (.iload_n 3, 1) := by decide +kernel
theorem dL_acts_79 : decode cL_acts 79 = .ok (.ifCond .ne 7, 3) := by decide +kernel
theorem dL_acts_82 : decode cL_acts 82 = .ok (.iconst (-1), 1) := by decide +kernel
theorem dL_acts_83 : decode cL_acts 83 = .ok (.goto 10, 3) := by decide +kernel
theorem dL_acts_86 : decode cL_acts 86 = .ok (.aload_n 0, 1) := by decide +kernel
theorem dL_acts_87 : decode cL_acts 87 = .ok (.iload 4, 2) := by decide +kernel
theorem dL_acts_89 : decode cL_acts 89 = .ok (.iconst 3, 1) := by decide +kernel
theorem dL_acts_90 : decode cL_acts 90 = .ok (.invokevirtual 19, 3) := by decide +kernel
theorem dL_acts_93 : decode cL_acts 93 = .ok (.istore 6, 2) := by decide +kernel
theorem dL_acts_95 : decode cL_acts 95 = .ok (.iload_n 3, 1) := by decide +kernel
theorem dL_acts_96 : decode cL_acts 96 = .ok (.ifCond .eq 84, 3) := by decide +kernel
theorem dL_acts_99 : decode cL_acts 99 = .ok (.iload 6, 2) := by decide +kernel
theorem dL_acts_101 : decode cL_acts 101 = .ok (.ifCond .ne 26, 3) := by decide +kernel
theorem dL_acts_104 : decode cL_acts 104 = .ok (.aload_n 0, 1) := by decide +kernel
theorem dL_acts_105 : decode cL_acts 105 = .ok (.iload 4, 2) := by decide +kernel
theorem dL_acts_107 : decode cL_acts 107 = .ok (.invokevirtual 64, 3) := by decide +kernel
theorem dL_acts_110 : decode cL_acts 110 = .ok (.ifCond .lt 74, 3) := by decide +kernel
theorem dL_acts_113 : decode cL_acts 113 = .ok (.aload_n 0, 1) := by decide +kernel
theorem dL_acts_114 : decode cL_acts 114 = .ok (.iload 4, 2) := by decide +kernel
theorem dL_acts_116 : decode cL_acts 116 = .ok (.iconst 3, 1) := by decide +kernel
theorem dL_acts_117 : decode cL_acts 117 = .ok (.invokevirtual 19, 3) := by decide +kernel
theorem dL_acts_120 : decode cL_acts 120 = .ok (.iconst 1, 1) := by decide +kernel
theorem dL_acts_121 : decode cL_acts 121 = .ok (.if_icmp .ne 63, 3) := by decide +kernel
theorem dL_acts_124 : decode cL_acts 124 = .ok (.goto 56, 3) := by decide +kernel
theorem dL_acts_127 : decode cL_acts 127 = .ok (.iload 6, 2) := by decide +kernel
theorem dL_acts_129 : decode cL_acts 129 = .ok (.iconst 1, 1) := by decide +kernel
theorem dL_acts_130 : decode cL_acts 130 = .ok (.if_icmp .ne 33, 3) := by decide +kernel
theorem dL_acts_133 : decode cL_acts 133 = .ok (.iload_n 2, 1) := by decide +kernel
theorem dL_acts_134 : decode cL_acts 134 = .ok (.iconst 5, 1) := by decide +kernel
theorem dL_acts_135 : decode cL_acts 135 = .ok (.ishr, 1) := by decide +kernel
theorem dL_acts_136 : decode cL_acts 136 = .ok (.iconst 3, 1) := by decide +kernel
theorem dL_acts_137 : decode cL_acts 137 = .ok (.iand, 1) := by decide +kernel
theorem dL_acts_138 : decode cL_acts 138 = .ok (.ifCond .ne 25, 3) := by decide +kernel
theorem dL_acts_141 : decode cL_acts 141 = .ok (.aload_n 0, 1) := by decide +kernel
theorem dL_acts_142 : decode cL_acts 142 = .ok (.iload 4, 2) := by decide +kernel
theorem dL_acts_144 : decode cL_acts 144 = .ok (.invokevirtual 67, 3) := by decide +kernel
theorem dL_acts_147 : decode cL_acts 147 = .ok (.ifCond .lt 37, 3) := by decide +kernel
theorem dL_acts_150 : decode cL_acts 150 = .ok (.aload_n 0, 1) := by decide +kernel
theorem dL_acts_151 : decode cL_acts 151 = .ok (.iload 4, 2) := by decide +kernel
theorem dL_acts_153 : decode cL_acts 153 = .ok (.iconst 3, 1) := by decide +kernel
theorem dL_acts_154 : decode cL_acts 154 = .ok (.invokevirtual 19, 3) := by decide +kernel
theorem dL_acts_157 : decode cL_acts 157 = .ok (.ifCond .ne 27, 3) := by decide +kernel
theorem dL_acts_160 : decode cL_acts 160 = .ok (.goto 20, 3) := by decide +kernel
theorem dL_acts_163 : decode cL_acts 163 = .ok (.iload 6, 2) := by decide +kernel
theorem dL_acts_165 : decode cL_acts 165 = .ok (.iconst 1, 1) := by decide +kernel
theorem dL_acts_166 : decode cL_acts 166 = .ok (.if_icmp .eq 14, 3) := by decide +kernel
theorem dL_acts_169 : decode cL_acts 169 = .ok (.aload_n 0, 1) := by decide +kernel
theorem dL_acts_170 : decode cL_acts 170 = .ok (.iload 4, 2) := by decide +kernel
theorem dL_acts_172 : decode cL_acts 172 = .ok (.invokevirtual 64, 3) := by decide +kernel
theorem dL_acts_175 : decode cL_acts 175 = .ok (.bipush (-4), 2) := by decide +kernel
theorem dL_acts_177 : decode cL_acts 177 = .ok (.if_icmp .ne 7, 3) := by decide +kernel
theorem dL_acts_180 : decode cL_acts 180 = .ok (.iconst 1, 1) := by decide +kernel
theorem dL_acts_181 : decode cL_acts 181 = .ok (.goto 4, 3) := by decide +kernel
theorem dL_acts_184 : decode cL_acts 184 = .ok (.iconst 0, 1) := by decide +kernel
theorem dL_acts_185 : decode cL_acts 185 = .ok (.ireturn, 1) := by decide +kernel
theorem dL_acts_186 : decode cL_acts 186 = .ok (.iload_n 3, 1) := by decide +kernel
theorem dL_acts_187 : decode cL_acts 187 = .ok (.ifCond .ne 7, 3) := by decide +kernel
theorem dL_acts_190 : decode cL_acts 190 = .ok (.iconst 0, 1) := by decide +kernel
theorem dL_acts_191 : decode cL_acts 191 = .ok (.goto 10, 3) := by decide +kernel
theorem dL_acts_194 : decode cL_acts 194 = .ok (.aload_n 0, 1) := by decide +kernel
theorem dL_acts_195 : decode cL_acts 195 = .ok (.iload 4, 2) := by decide +kernel
theorem dL_acts_197 : decode cL_acts 197 = .ok (.iconst 4, 1) := by decide +kernel
theorem dL_acts_198 : decode cL_acts 198 = .ok (.invokevirtual 19, 3) := by decide +kernel
theorem dL_acts_201 : decode cL_acts 201 = .ok (.istore 7, 2) := by decide +kernel
theorem dL_acts_203 : decode cL_acts 203 = .ok (.iload_n 3, 1) := by decide +kernel
theorem dL_acts_204 : decode cL_acts 204 = .ok (.ifCond .eq 78, 3) := by decide +kernel
theorem dL_acts_207 : decode cL_acts 207 = .ok (.aload_n 0, 1) := by decide +kernel
theorem dL_acts_208 : decode cL_acts 208 = .ok (.iload 4, 2) := by decide +kernel
theorem dL_acts_210 : decode cL_acts 210 = .ok (.iconst 3, 1) := by decide +kernel
theorem dL_acts_211 : decode cL_acts 211 = .ok (.invokevirtual 19, 3) := by decide +kernel
theorem dL_acts_214 : decode cL_acts 214 = .ok (.iconst 2, 1) := by decide +kernel
theorem dL_acts_215 : decode cL_acts 215 = .ok (.if_icmp .eq 17, 3) := by decide +kernel
theorem dL_acts_218 : decode cL_acts 218 = .ok (.aload_n 0, 1) := by decide +kernel
theorem dL_acts_219 : decode cL_acts 219 = .ok (.iload 4, 2) := by decide +kernel
theorem dL_acts_221 : decode cL_acts 221 = .ok (.invokevirtual 70, 3) := by decide +kernel
theorem dL_acts_224 : decode cL_acts 224 = .ok (.bipush (-4), 2) := by decide +kernel
theorem dL_acts_226 : decode cL_acts 226 = .ok (.if_icmp .ne 60, 3) := by decide +kernel
theorem dL_acts_229 : decode cL_acts 229 = .ok (.goto 53, 3) := by decide +kernel
theorem dL_acts_232 : decode cL_acts 232 = .ok (.iload 7, 2) := by decide +kernel
theorem dL_acts_234 : decode cL_acts 234 = .ok (.bipush 6, 2) := by decide +kernel
theorem dL_acts_236 : decode cL_acts 236 = .ok (.if_icmp .ne 17, 3) := by decide +kernel
theorem dL_acts_239 : decode cL_acts 239 = .ok (.aload_n 0, 1) := by decide +kernel
theorem dL_acts_240 : decode cL_acts 240 = .ok (.iload 4, 2) := by decide +kernel
theorem dL_acts_242 : decode cL_acts 242 = .ok (.invokevirtual 70, 3) := by decide +kernel
theorem dL_acts_245 : decode cL_acts 245 = .ok (.bipush (-3), 2) := by decide +kernel
theorem dL_acts_247 : decode cL_acts 247 = .ok (.if_icmp .ne 39, 3) := by decide +kernel
theorem dL_acts_250 : decode cL_acts 250 = .ok (.goto 32, 3) := by decide +kernel
theorem dL_acts_253 : decode cL_acts 253 = .ok (.aload_n 0, 1) := by decide +kernel
theorem dL_acts_254 : decode cL_acts 254 = .ok (.iload 4, 2) := by decide +kernel
theorem dL_acts_256 : decode cL_acts 256 = .ok (.invokevirtual 70, 3) := by decide +kernel
theorem dL_acts_259 : decode cL_acts 259 = .ok (.iload 7, 2) := by decide +kernel
theorem dL_acts_261 : decode cL_acts 261 = .ok (.iconst 1, 1) := by decide +kernel
theorem dL_acts_262 : decode cL_acts 262 = .ok (.iadd, 1) := by decide +kernel
theorem dL_acts_263 : decode cL_acts 263 = .ok (.if_icmp .ne 23, 3) := by decide +kernel
theorem dL_acts_266 : decode cL_acts 266 = .ok (.aload_n 0, 1) := by decide +kernel
theorem dL_acts_267 : decode cL_acts 267 = .ok (.iload 4, 2) := by decide +kernel
