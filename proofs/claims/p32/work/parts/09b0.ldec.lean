/-! decode rows of the law's methods -/
theorem dL_cell_0 : decode cL_cell 0 = .ok (.iload_n 1, 1) := by decide +kernel
theorem dL_cell_1 : decode cL_cell 1 = .ok (.aload_n 0, 1) := by decide +kernel
theorem dL_cell_2 : decode cL_cell 2 = .ok (.arraylength, 1) := by decide +kernel
theorem dL_cell_3 : decode cL_cell 3 = .ok (.if_icmp .ge 9, 3) := by decide +kernel
theorem dL_cell_6 : decode cL_cell 6 = .ok (.aload_n 0, 1) := by decide +kernel
theorem dL_cell_7 : decode cL_cell 7 = .ok (.iload_n 1, 1) := by decide +kernel
theorem dL_cell_8 : decode cL_cell 8 = .ok (.iaload, 1) := by decide +kernel
theorem dL_cell_9 : decode cL_cell 9 = .ok (.goto 11, 3) := by decide +kernel
theorem dL_cell_12 : decode cL_cell 12 = .ok (.ldc 7, 2) := by decide +kernel
theorem dL_cell_14 : decode cL_cell 14 = .ok (.iload_n 1, 1) := by decide +kernel
theorem dL_cell_15 : decode cL_cell 15 = .ok (.imul, 1) := by decide +kernel
theorem dL_cell_16 : decode cL_cell 16 = .ok (.sipush 2003, 3) := by decide +kernel
theorem dL_cell_19 : decode cL_cell 19 = .ok (.iadd, 1) := by decide +kernel
theorem dL_cell_20 : decode cL_cell 20 = .ok (.ldc 8, 2) := by decide +kernel
theorem dL_cell_22 : decode cL_cell 22 = .ok (.iand, 1) := by decide +kernel
theorem dL_cell_23 : decode cL_cell 23 = .ok (.ireturn, 1) := by decide +kernel
theorem dL_copies_0 : decode cL_copies 0 = .ok (.iconst 5, 1) := by decide +kernel
theorem dL_copies_1 : decode cL_copies 1 = .ok (.newarray .int, 2) := by decide +kernel
theorem dL_copies_3 : decode cL_copies 3 = .ok (.astore_n 1, 1) := by decide +kernel
theorem dL_copies_4 : decode cL_copies 4 = .ok (.bipush 20, 2) := by decide +kernel
theorem dL_copies_6 : decode cL_copies 6 = .ok (.newarray .int, 2) := by decide +kernel
theorem dL_copies_8 : decode cL_copies 8 = .ok (.astore_n 2, 1) := by decide +kernel
theorem dL_copies_9 : decode cL_copies 9 = .ok (.bipush 8, 2) := by decide +kernel
theorem dL_copies_11 : decode cL_copies 11 = .ok (.newarray .int, 2) := by decide +kernel
theorem dL_copies_13 : decode cL_copies 13 = .ok (.astore_n 3, 1) := by decide +kernel
theorem dL_copies_14 : decode cL_copies 14 = .ok (.iconst 0, 1) := by decide +kernel
theorem dL_copies_15 : decode cL_copies 15 = .ok (.istore 4, 2) := by decide +kernel
theorem dL_copies_17 : decode cL_copies 17 = .ok (.iconst 1, 1) := by decide +kernel
theorem dL_copies_18 : decode cL_copies 18 = .ok (.istore 5, 2) := by decide +kernel
theorem dL_copies_20 : decode cL_copies 20 = .ok (.iconst 0, 1) := by decide +kernel
theorem dL_copies_21 : decode cL_copies 21 = .ok (.istore 6, 2) := by decide +kernel
theorem dL_copies_23 : decode cL_copies 23 = .ok (.aload_n 0, 1) := by decide +kernel
theorem dL_copies_24 : decode cL_copies 24 = .ok (.iload 6, 2) := by decide +kernel
theorem dL_copies_26 : decode cL_copies 26 = .ok (.invokevirtual 9, 3) := by decide +kernel
theorem dL_copies_29 : decode cL_copies 29 = .ok (.ifCond .lt 483, 3) := by decide +kernel
theorem dL_copies_32 : decode cL_copies 32 = .ok (.iload 5, 2) := by decide +kernel
theorem dL_copies_34 : decode cL_copies 34 = .ok (.ifCond .eq 478, 3) := by decide +kernel
theorem dL_copies_37 : decode cL_copies 37 = .ok (.aload_n 0, 1) := by decide +kernel
theorem dL_copies_38 : decode cL_copies 38 = .ok (.iload 6, 2) := by decide +kernel
theorem dL_copies_40 : decode cL_copies 40 = .ok (.invokevirtual 9, 3) := by decide +kernel
theorem dL_copies_43 : decode cL_copies 43 = .ok (.bipush 10, 2) := by decide +kernel
theorem dL_copies_45 : decode cL_copies 45 = .ok (.idiv, 1) := by decide +kernel
theorem dL_copies_46 : decode cL_copies 46 = .ok (.istore 7, 2) := by decide +kernel
theorem dL_copies_48 : decode cL_copies 48 = .ok (.aload_n 0, 1) := by decide +kernel
theorem dL_copies_49 : decode cL_copies 49 = .ok (.iload 6, 2) := by decide +kernel
theorem dL_copies_51 : decode cL_copies 51 = .ok (.invokevirtual 9, 3) := by decide +kernel
theorem dL_copies_54 : decode cL_copies 54 = .ok (.bipush 10, 2) := by decide +kernel
theorem dL_copies_56 : decode cL_copies 56 = .ok (.irem, 1) := by decide +kernel
theorem dL_copies_57 : decode cL_copies 57 = .ok (.istore 8, 2) := by decide +kernel
theorem dL_copies_59 : decode cL_copies 59 = .ok (.aload_n 0, 1) := by decide +kernel
theorem dL_copies_60 : decode cL_copies 60 = .ok (.iload 7, 2) := by decide +kernel
theorem dL_copies_62 : decode cL_copies 62 = .ok (.iload 8, 2) := by decide +kernel
theorem dL_copies_64 : decode cL_copies 64 = .ok (.iconst 0, 1) := by decide +kernel
theorem dL_copies_65 : decode cL_copies 65 = .ok (.invokevirtual 15, 3) := by decide +kernel
theorem dL_copies_68 : decode cL_copies 68 = .ok (.istore 9, 2) := by decide +kernel
theorem dL_copies_70 : decode cL_copies 70 = .ok (.aload_n 0, 1) := by decide +kernel
theorem dL_copies_71 : decode cL_copies 71 = .ok (.iload 7, 2) := by decide +kernel
theorem dL_copies_73 : decode cL_copies 73 = .ok (.iload 8, 2) := by decide +kernel
theorem dL_copies_75 : decode cL_copies 75 = .ok (.iconst 2, 1) := by decide +kernel
theorem dL_copies_76 : decode cL_copies 76 = .ok (.invokevirtual 15, 3) := by decide +kernel
theorem dL_copies_79 : decode cL_copies 79 = .ok (.istore 10, 2) := by decide +kernel
theorem dL_copies_81 : decode cL_copies 81 = .ok (.aload_n 0, 1) := by decide +kernel
theorem dL_copies_82 : decode cL_copies 82 = .ok (.iload 7, 2) := by decide +kernel
theorem dL_copies_84 : decode cL_copies 84 = .ok (.iload 8, 2) := by decide +kernel
theorem dL_copies_86 : decode cL_copies 86 = .ok (.iconst 3, 1) := by decide +kernel
theorem dL_copies_87 : decode cL_copies 87 = .ok (.invokevirtual 15, 3) := by decide +kernel
theorem dL_copies_90 : decode cL_copies 90 = .ok (.istore 11, 2) := by decide +kernel
theorem dL_copies_92 : decode cL_copies 92 = .ok (.iload 9, 2) := by decide +kernel
theorem dL_copies_94 : decode cL_copies 94 = .ok (.iconst 1, 1) := by decide +kernel
theorem dL_copies_95 : decode cL_copies 95 = .ok (.if_icmp .ne 7, 3) := by decide +kernel
theorem dL_copies_98 : decode cL_copies 98 = .ok (.iconst 1, 1) := by decide +kernel
theorem dL_copies_99 : decode cL_copies 99 = .ok (.goto 4, 3) := by decide +kernel
theorem dL_copies_102 : decode cL_copies 102 = .ok (.iconst 0, 1) := by decide +kernel
theorem dL_copies_103 : decode cL_copies 103 = .ok (.istore 12, 2) := by decide +kernel
theorem dL_copies_105 : decode cL_copies 105 = .ok (.aload_n 1, 1) := by decide +kernel
theorem dL_copies_106 : decode cL_copies 106 = .ok (.iload 9, 2) := by decide +kernel
theorem dL_copies_108 : decode cL_copies 108 = .ok (.dup2, 1) := by decide +kernel
theorem dL_copies_109 : decode cL_copies 109 = .ok (.iaload, 1) := by decide +kernel
theorem dL_copies_110 : decode cL_copies 110 = .ok (.iconst 1, 1) := by decide +kernel
theorem dL_copies_111 : decode cL_copies 111 = .ok (.iadd, 1) := by decide +kernel
theorem dL_copies_112 : decode cL_copies 112 = .ok (.iastore, 1) := by decide +kernel
theorem dL_copies_113 : decode cL_copies 113 = .ok (.aload_n 2, 1) := by decide +kernel
theorem dL_copies_114 : decode cL_copies 114 = .ok (.iload 7, 2) := by decide +kernel
theorem dL_copies_116 : decode cL_copies 116 = .ok (.dup2, 1) := by decide +kernel
theorem dL_copies_117 : decode cL_copies 117 = .ok (.iaload, 1) := by decide +kernel
theorem dL_copies_118 : decode cL_copies 118 = .ok (.iconst 1, 1) := by decide +kernel
theorem dL_copies_119 : decode cL_copies 119 = .ok (.iadd, 1) := by decide +kernel
theorem dL_copies_120 : decode cL_copies 120 = .ok (.iastore, 1) := by decide +kernel
theorem dL_copies_121 : decode cL_copies 121 = .ok (.aload_n 3, 1) := by decide +kernel
theorem dL_copies_122 : decode cL_copies 122 = .ok (.iload 8, 2) := by decide +kernel
theorem dL_copies_124 : decode cL_copies 124 = .ok (.dup2, 1) := by decide +kernel
theorem dL_copies_125 : decode cL_copies 125 = .ok (.iaload, 1) := by decide +kernel
theorem dL_copies_126 : decode cL_copies 126 = .ok (.iload 12, 2) := by decide +kernel
theorem dL_copies_128 : decode cL_copies 128 = .ok (.ifCond .eq 7, 3) := by decide +kernel
theorem dL_copies_131 : decode cL_copies 131 = .ok (.iconst 1, 1) := by decide +kernel
theorem dL_copies_132 : decode cL_copies 132 = .ok (.goto 4, 3) := by decide +kernel
theorem dL_copies_135 : decode cL_copies 135 = .ok (.iconst 0, 1) := by decide +kernel
theorem dL_copies_136 : decode cL_copies 136 = .ok (.iadd, 1) := by decide +kernel
theorem dL_copies_137 : decode cL_copies 137 = .ok (.iastore, 1) := by decide +kernel
theorem dL_copies_138 : decode cL_copies 138 = .ok (.iload 4, 2) := by decide +kernel
theorem dL_copies_140 : decode cL_copies 140 = .ok (.aload_n 0, 1) := by decide +kernel
theorem dL_copies_141 : decode cL_copies 141 = .ok (.iload 7, 2) := by decide +kernel
theorem dL_copies_143 : decode cL_copies 143 = .ok (.iload 8, 2) := by decide +kernel
theorem dL_copies_145 : decode cL_copies 145 = .ok (.iconst 5, 1) := by decide +kernel
theorem dL_copies_146 : decode cL_copies 146 = .ok (.invokevirtual 15, 3) := by decide +kernel
theorem dL_copies_149 : decode cL_copies 149 = .ok (.ifCond .le 7, 3) := by decide +kernel
theorem dL_copies_152 : decode cL_copies 152 = .ok (.iconst 1, 1) := by decide +kernel
theorem dL_copies_153 : decode cL_copies 153 = .ok (.goto 4, 3) := by decide +kernel
theorem dL_copies_156 : decode cL_copies 156 = .ok (.iconst 0, 1) := by decide +kernel
theorem dL_copies_157 : decode cL_copies 157 = .ok (.iadd, 1) := by decide +kernel
theorem dL_copies_158 : decode cL_copies 158 = .ok (.istore 4, 2) := by decide +kernel
theorem dL_copies_160 : decode cL_copies 160 = .ok (.aload_n 0, 1) := by decide +kernel
theorem dL_copies_161 : decode cL_copies 161 = .ok (.iload 7, 2) := by decide +kernel
theorem dL_copies_163 : decode cL_copies 163 = .ok (.iload 8, 2) := by decide +kernel
theorem dL_copies_165 : decode cL_copies 165 = .ok (.iconst 1, 1) := by decide +kernel
theorem dL_copies_166 : decode cL_copies 166 = .ok (.invokevirtual 15, 3) := by decide +kernel
theorem dL_copies_169 : decode cL_copies 169 = .ok (.aload_n 0, 1) := by decide +kernel
theorem dL_copies_170 : decode cL_copies 170 = .ok (.iload 7, 2) := by decide +kernel
theorem dL_copies_172 : decode cL_copies 172 = .ok (.iconst 5, 1) := by decide +kernel
theorem dL_copies_173 : decode cL_copies 173 = .ok (.invokevirtual 19, 3) := by decide +kernel
theorem dL_copies_176 : decode cL_copies 176 = .ok (.aload_n 0, 1) := by decide +kernel
theorem dL_copies_177 : decode cL_copies 177 = .ok (.iload 8, 2) := by decide +kernel
theorem dL_copies_179 : decode cL_copies 179 = .ok (.iconst 1, 1) := by decide +kernel
theorem dL_copies_180 : decode cL_copies 180 = .ok (.invokevirtual 23, 3) := by decide +kernel
theorem dL_copies_183 : decode cL_copies 183 = .ok (.iadd, 1) := by decide +kernel
theorem dL_copies_184 : decode cL_copies 184 = .ok (.if_icmp .ne 66, 3) := by decide +kernel
theorem dL_copies_187 : decode cL_copies 187 = .ok (.iload 9, 2) := by decide +kernel
theorem dL_copies_189 : decode cL_copies 189 = .ok (.ifCond .eq 9, 3) := by decide +kernel
theorem dL_copies_192 : decode cL_copies 192 = .ok (.iload 9, 2) := by decide +kernel
theorem dL_copies_194 : decode cL_copies 194 = .ok (.iconst 4, 1) := by decide +kernel
theorem dL_copies_195 : decode cL_copies 195 = .ok (.if_icmp .ne 20, 3) := by decide +kernel
theorem dL_copies_198 : decode cL_copies 198 = .ok (.iload 10, 2) := by decide +kernel
theorem dL_copies_200 : decode cL_copies 200 = .ok (.bipush (-5), 2) := by decide +kernel
theorem dL_copies_202 : decode cL_copies 202 = .ok (.if_icmp .ne 48, 3) := by decide +kernel
theorem dL_copies_205 : decode cL_copies 205 = .ok (.iload 11, 2) := by decide +kernel
theorem dL_copies_207 : decode cL_copies 207 = .ok (.bipush (-5), 2) := by decide +kernel
theorem dL_copies_209 : decode cL_copies 209 = .ok (.if_icmp .ne 41, 3) := by decide +kernel
theorem dL_copies_212 : decode cL_copies 212 = .ok (.goto 34, 3) := by decide +kernel
theorem dL_copies_215 : decode cL_copies 215 = .ok (.iload 10, 2) := by decide +kernel
theorem dL_copies_217 : decode cL_copies 217 = .ok (.aload_n 0, 1) := by decide +kernel
theorem dL_copies_218 : decode cL_copies 218 = .ok (.iload 7, 2) := by decide +kernel
theorem dL_copies_220 : decode cL_copies 220 = .ok (.iload 8, 2) := by decide +kernel
theorem dL_copies_222 : decode cL_copies 222 = .ok (.iconst 1, 1) := by decide +kernel
theorem dL_copies_223 : decode cL_copies 223 = .ok (.invokevirtual 15, 3) := by decide +kernel
theorem dL_copies_226 : decode cL_copies 226 = .ok (.if_icmp .lt 24, 3) := by decide +kernel
theorem dL_copies_229 : decode cL_copies 229 = .ok (.iload 11, 2) := by decide +kernel
theorem dL_copies_231 : decode cL_copies 231 = .ok (.ifCond .lt 19, 3) := by decide +kernel
theorem dL_copies_234 : decode cL_copies 234 = .ok (.iload 11, 2) := by decide +kernel
theorem dL_copies_236 : decode cL_copies 236 = .ok (.aload_n 0, 1) := by decide +kernel
theorem dL_copies_237 : decode cL_copies 237 = .ok (.iload 7, 2) := by decide +kernel
theorem dL_copies_239 : decode cL_copies 239 = .ok (.iconst 4, 1) := by decide +kernel
theorem dL_copies_240 : decode cL_copies 240 = .ok (.invokevirtual 19, 3) := by decide +kernel
theorem dL_copies_243 : decode cL_copies 243 = .ok (.if_icmp .gt 7, 3) := by decide +kernel
theorem dL_copies_246 : decode cL_copies 246 = .ok (.iconst 1, 1) := by decide +kernel
theorem dL_copies_247 : decode cL_copies 247 = .ok (.goto 4, 3) := by decide +kernel
theorem dL_copies_250 : decode cL_copies 250 = .ok (.iconst 0, 1) := by decide +kernel
theorem dL_copies_251 : decode cL_copies 251 = .ok (.istore 5, 2) := by decide +kernel
theorem dL_copies_253 : decode cL_copies 253 = .ok (.iload 5, 2) := by decide +kernel
theorem dL_copies_255 : decode cL_copies 255 = .ok (.ifCond .eq 131, 3) := by decide +kernel
theorem dL_copies_258 : decode cL_copies 258 = .ok (.iload 12, 2) := by decide +kernel
theorem dL_copies_260 : decode cL_copies 260 = .ok (.ifCond .eq 53, 3) := by decide +kernel
theorem dL_copies_263 : decode cL_copies 263 = .ok (.aload_n 0, 1) := by decide +kernel
theorem dL_copies_264 : decode cL_copies 264 = .ok (.iload 7, 2) := by decide +kernel
theorem dL_copies_266 : decode cL_copies 266 = .ok (.iload 8, 2) := by decide +kernel
theorem dL_copies_268 : decode cL_copies 268 = .ok (.iconst 4, 1) := by decide +kernel
theorem dL_copies_269 : decode cL_copies 269 = .ok (.invokevirtual 15, 3) := by decide +kernel
theorem dL_copies_272 : decode cL_copies 272 = .ok (.aload_n 0, 1) := by decide +kernel
theorem dL_copies_273 : decode cL_copies 273 = .ok (.iload 7, 2) := by decide +kernel
theorem dL_copies_275 : decode cL_copies 275 = .ok (.iconst 4, 1) := by decide +kernel
theorem dL_copies_276 : decode cL_copies 276 = .ok (.invokevirtual 19, 3) := by decide +kernel
theorem dL_copies_279 : decode cL_copies 279 = .ok (.iload 11, 2) := by decide +kernel
theorem dL_copies_281 : decode cL_copies 281 = .ok (.isub, 1) := by decide +kernel
theorem dL_copies_282 : decode cL_copies 282 = .ok (.if_icmp .ne 104, 3) := by decide +kernel
theorem dL_copies_285 : decode cL_copies 285 = .ok (.aload_n 0, 1) := by decide +kernel
theorem dL_copies_286 : decode cL_copies 286 = .ok (.iload 7, 2) := by decide +kernel
theorem dL_copies_288 : decode cL_copies 288 = .ok (.iload 8, 2) := by decide +kernel
theorem dL_copies_290 : decode cL_copies 290 = .ok (.bipush 8, 2) := by decide +kernel
theorem dL_copies_292 : decode cL_copies 292 = .ok (.invokevirtual 15, 3) := by decide +kernel
theorem dL_copies_295 : decode cL_copies 295 = .ok (.iload 10, 2) := by decide +kernel
theorem dL_copies_297 : decode cL_copies 297 = .ok (.bipush 24, 2) := by decide +kernel
theorem dL_copies_299 : decode cL_copies 299 = .ok (.aload_n 0, 1) := by decide +kernel
theorem dL_copies_300 : decode cL_copies 300 = .ok (.bipush 12, 2) := by decide +kernel
theorem dL_copies_302 : decode cL_copies 302 = .ok (.invokevirtual 26, 3) := by decide +kernel
theorem dL_copies_305 : decode cL_copies 305 = .ok (.imul, 1) := by decide +kernel
theorem dL_copies_306 : decode cL_copies 306 = .ok (.iadd, 1) := by decide +kernel
theorem dL_copies_307 : decode cL_copies 307 = .ok (.if_icmp .ne 79, 3) := by decide +kernel
theorem dL_copies_310 : decode cL_copies 310 = .ok (.goto 72, 3) := by decide +kernel
theorem dL_copies_313 : decode cL_copies 313 = .ok (.aload_n 0, 1) := by decide +kernel
theorem dL_copies_314 : decode cL_copies 314 = .ok (.iload 7, 2) := by decide +kernel
theorem dL_copies_316 : decode cL_copies 316 = .ok (.iload 8, 2) := by decide +kernel
theorem dL_copies_318 : decode cL_copies 318 = .ok (.iconst 4, 1) := by decide +kernel
theorem dL_copies_319 : decode cL_copies 319 = .ok (.invokevirtual 15, 3) := by decide +kernel
theorem dL_copies_322 : decode cL_copies 322 = .ok (.ifCond .ne 64, 3) := by decide +kernel
theorem dL_copies_325 : decode cL_copies 325 = .ok (.aload_n 0, 1) := by decide +kernel
theorem dL_copies_326 : decode cL_copies 326 = .ok (.iload 7, 2) := by decide +kernel
theorem dL_copies_328 : decode cL_copies 328 = .ok (.iload 8, 2) := by decide +kernel
theorem dL_copies_330 : decode cL_copies 330 = .ok (.iconst 5, 1) := by decide +kernel
theorem dL_copies_331 : decode cL_copies 331 = .ok (.invokevirtual 15, 3) := by decide +kernel
theorem dL_copies_334 : decode cL_copies 334 = .ok (.ifCond .ne 52, 3) := by decide +kernel
theorem dL_copies_337 : decode cL_copies 337 = .ok (.aload_n 0, 1) := by decide +kernel
theorem dL_copies_338 : decode cL_copies 338 = .ok (.iload 7, 2) := by decide +kernel
theorem dL_copies_340 : decode cL_copies 340 = .ok (.iload 8, 2) := by decide +kernel
theorem dL_copies_342 : decode cL_copies 342 = .ok (.bipush 6, 2) := by decide +kernel
theorem dL_copies_344 : decode cL_copies 344 = .ok (.invokevirtual 15, 3) := by decide +kernel
theorem dL_copies_347 : decode cL_copies 347 = .ok (.bipush (-5), 2) := by decide +kernel
theorem dL_copies_349 : decode cL_copies 349 = .ok (.if_icmp .ne 37, 3) := by decide +kernel
theorem dL_copies_352 : decode cL_copies 352 = .ok (.aload_n 0, 1) := by decide +kernel
theorem dL_copies_353 : decode cL_copies 353 = .ok (.iload 7, 2) := by decide +kernel
theorem dL_copies_355 : decode cL_copies 355 = .ok (.iload 8, 2) := by decide +kernel
theorem dL_copies_357 : decode cL_copies 357 = .ok (.bipush 7, 2) := by decide +kernel
theorem dL_copies_359 : decode cL_copies 359 = .ok (.invokevirtual 15, 3) := by decide +kernel
theorem dL_copies_362 : decode cL_copies 362 = .ok (.bipush (-5), 2) := by decide +kernel
theorem dL_copies_364 : decode cL_copies 364 = .ok (.if_icmp .ne 22, 3) := by decide +kernel
theorem dL_copies_367 : decode cL_copies 367 = .ok (.aload_n 0, 1) := by decide +kernel
theorem dL_copies_368 : decode cL_copies 368 = .ok (.iload 7, 2) := by decide +kernel
theorem dL_copies_370 : decode cL_copies 370 = .ok (.iload 8, 2) := by decide +kernel
theorem dL_copies_372 : decode cL_copies 372 = .ok (.bipush 8, 2) := by decide +kernel
theorem dL_copies_374 : decode cL_copies 374 = .ok (.invokevirtual 15, 3) := by decide +kernel
theorem dL_copies_377 : decode cL_copies 377 = .ok (.bipush (-5), 2) := by decide +kernel
theorem dL_copies_379 : decode cL_copies 379 = .ok (.if_icmp .ne 7, 3) := by decide +kernel
theorem dL_copies_382 : decode cL_copies 382 = .ok (.iconst 1, 1) := by decide +kernel
theorem dL_copies_383 : decode cL_copies 383 = .ok (.goto 4, 3) := by decide +kernel
theorem dL_copies_386 : decode cL_copies 386 = .ok (.iconst 0, 1) := by decide +kernel
theorem dL_copies_387 : decode cL_copies 387 = .ok (.istore 5, 2) := by decide +kernel
theorem dL_copies_389 : decode cL_copies 389 = .ok (.iload 5, 2) := by decide +kernel
theorem dL_copies_391 : decode cL_copies 391 = .ok (.ifCond .eq 53, 3) := by decide +kernel
theorem dL_copies_394 : decode cL_copies 394 = .ok (.iload 12, 2) := by decide +kernel
theorem dL_copies_396 : decode cL_copies 396 = .ok (.ifCond .eq 44, 3) := by decide +kernel
theorem dL_copies_399 : decode cL_copies 399 = .ok (.iload 11, 2) := by decide +kernel
theorem dL_copies_401 : decode cL_copies 401 = .ok (.aload_n 0, 1) := by decide +kernel
theorem dL_copies_402 : decode cL_copies 402 = .ok (.iload 7, 2) := by decide +kernel
theorem dL_copies_404 : decode cL_copies 404 = .ok (.iconst 4, 1) := by decide +kernel
theorem dL_copies_405 : decode cL_copies 405 = .ok (.invokevirtual 19, 3) := by decide +kernel
theorem dL_copies_408 : decode cL_copies 408 = .ok (.if_icmp .eq 32, 3) := by decide +kernel
theorem dL_copies_411 : decode cL_copies 411 = .ok (.aload_n 0, 1) := by decide +kernel
theorem dL_copies_412 : decode cL_copies 412 = .ok (.iload 7, 2) := by decide +kernel
theorem dL_copies_414 : decode cL_copies 414 = .ok (.iload 8, 2) := by decide +kernel
theorem dL_copies_416 : decode cL_copies 416 = .ok (.bipush 6, 2) := by decide +kernel
theorem dL_copies_418 : decode cL_copies 418 = .ok (.invokevirtual 15, 3) := by decide +kernel
theorem dL_copies_421 : decode cL_copies 421 = .ok (.aload_n 0, 1) := by decide +kernel
theorem dL_copies_422 : decode cL_copies 422 = .ok (.iload 7, 2) := by decide +kernel
theorem dL_copies_424 : decode cL_copies 424 = .ok (.iload 11, 2) := by decide +kernel
theorem dL_copies_426 : decode cL_copies 426 = .ok (.invokevirtual 29, 3) := by decide +kernel
theorem dL_copies_429 : decode cL_copies 429 = .ok (.aload_n 0, 1) := by decide +kernel
theorem dL_copies_430 : decode cL_copies 430 = .ok (.iload 8, 2) := by decide +kernel
theorem dL_copies_432 : decode cL_copies 432 = .ok (.iconst 2, 1) := by decide +kernel
theorem dL_copies_433 : decode cL_copies 433 = .ok (.invokevirtual 23, 3) := by decide +kernel
theorem dL_copies_436 : decode cL_copies 436 = .ok (.iadd, 1) := by decide +kernel
theorem dL_copies_437 : decode cL_copies 437 = .ok (.if_icmp .ne 7, 3) := by decide +kernel
theorem dL_copies_440 : decode cL_copies 440 = .ok (.iconst 1, 1) := by decide +kernel
theorem dL_copies_441 : decode cL_copies 441 = .ok (.goto 4, 3) := by decide +kernel
theorem dL_copies_444 : decode cL_copies 444 = .ok (.iconst 0, 1) := by decide +kernel
theorem dL_copies_445 : decode cL_copies 445 = .ok (.istore 5, 2) := by decide +kernel
theorem dL_copies_447 : decode cL_copies 447 = .ok (.iload 5, 2) := by decide +kernel
theorem dL_copies_449 : decode cL_copies 449 = .ok (.ifCond .eq 54, 3) := by decide +kernel
theorem dL_copies_452 : decode cL_copies 452 = .ok (.iload 12, 2) := by decide +kernel
theorem dL_copies_454 : decode cL_copies 454 = .ok (.ifCond .eq 45, 3) := by decide +kernel
theorem dL_copies_457 : decode cL_copies 457 = .ok (.aload_n 0, 1) := by decide +kernel
theorem dL_copies_458 : decode cL_copies 458 = .ok (.iload 7, 2) := by decide +kernel
theorem dL_copies_460 : decode cL_copies 460 = .ok (.iconst 3, 1) := by decide +kernel
theorem dL_copies_461 : decode cL_copies 461 = .ok (.invokevirtual 19, 3) := by decide +kernel
theorem dL_copies_464 : decode cL_copies 464 = .ok (.iconst 3, 1) := by decide +kernel
theorem dL_copies_465 : decode cL_copies 465 = .ok (.if_icmp .ne 34, 3) := by decide +kernel
theorem dL_copies_468 : decode cL_copies 468 = .ok (.aload_n 0, 1) := by decide +kernel
theorem dL_copies_469 : decode cL_copies 469 = .ok (.iload 7, 2) := by decide +kernel
theorem dL_copies_471 : decode cL_copies 471 = .ok (.iload 8, 2) := by decide +kernel
theorem dL_copies_473 : decode cL_copies 473 = .ok (.bipush 7, 2) := by decide +kernel
theorem dL_copies_475 : decode cL_copies 475 = .ok (.invokevirtual 15, 3) := by decide +kernel
theorem dL_copies_478 : decode cL_copies 478 = .ok (.aload_n 0, 1) := by decide +kernel
theorem dL_copies_479 : decode cL_copies 479 = .ok (.iload 7, 2) := by decide +kernel
theorem dL_copies_481 : decode cL_copies 481 = .ok (.bipush 6, 2) := by decide +kernel
theorem dL_copies_483 : decode cL_copies 483 = .ok (.invokevirtual 19, 3) := by decide +kernel
theorem dL_copies_486 : decode cL_copies 486 = .ok (.aload_n 0, 1) := by decide +kernel
theorem dL_copies_487 : decode cL_copies 487 = .ok (.iload 8, 2) := by decide +kernel
theorem dL_copies_489 : decode cL_copies 489 = .ok (.iconst 2, 1) := by decide +kernel
theorem dL_copies_490 : decode cL_copies 490 = .ok (.invokevirtual 23, 3) := by decide +kernel
theorem dL_copies_493 : decode cL_copies 493 = .ok (.iconst 2, 1) := by decide +kernel
theorem dL_copies_494 : decode cL_copies 494 = .ok (.idiv, 1) := by decide +kernel
theorem dL_copies_495 : decode cL_copies 495 = .ok (.iadd, 1) := by decide +kernel
theorem dL_copies_496 : decode cL_copies 496 = .ok (.if_icmp .ne 7, 3) := by decide +kernel
theorem dL_copies_499 : decode cL_copies 499 = .ok (.iconst 1, 1) := by decide +kernel
theorem dL_copies_500 : decode cL_copies 500 = .ok (.goto 4, 3) := by decide +kernel
theorem dL_copies_503 : decode cL_copies 503 = .ok (.iconst 0, 1) := by decide +kernel
theorem dL_copies_504 : decode cL_copies 504 = .ok (.istore 5, 2) := by decide +kernel
theorem dL_copies_506 : decode cL_copies 506 = .ok (.iinc 6 1, 3) := by decide +kernel
theorem dL_copies_509 : decode cL_copies 509 = .ok (.goto (-486), 3) := by decide +kernel
theorem dL_copies_512 : decode cL_copies 512 = .ok (.iconst 0, 1) := by decide +kernel
theorem dL_copies_513 : decode cL_copies 513 = .ok (.istore 6, 2) := by decide +kernel
theorem dL_copies_515 : decode cL_copies 515 = .ok (.iload 6, 2) := by decide +kernel
theorem dL_copies_517 : decode cL_copies 517 = .ok (.iconst 5, 1) := by decide +kernel
theorem dL_copies_518 : decode cL_copies 518 = .ok (.if_icmp .ge 36, 3) := by decide +kernel
theorem dL_copies_521 : decode cL_copies 521 = .ok (.iload 5, 2) := by decide +kernel
theorem dL_copies_523 : decode cL_copies 523 = .ok (.ifCond .eq 31, 3) := by decide +kernel
theorem dL_copies_526 : decode cL_copies 526 = .ok (.aload_n 0, 1) := by decide +kernel
theorem dL_copies_527 : decode cL_copies 527 = .ok (.iconst 4, 1) := by decide +kernel
theorem dL_copies_528 : decode cL_copies 528 = .ok (.iload 6, 2) := by decide +kernel
theorem dL_copies_530 : decode cL_copies 530 = .ok (.iadd, 1) := by decide +kernel
theorem dL_copies_531 : decode cL_copies 531 = .ok (.invokevirtual 26, 3) := by decide +kernel
theorem dL_copies_534 : decode cL_copies 534 = .ok (.aload_n 1, 1) := by decide +kernel
theorem dL_copies_535 : decode cL_copies 535 = .ok (.iload 6, 2) := by decide +kernel
theorem dL_copies_537 : decode cL_copies 537 = .ok (.iaload, 1) := by decide +kernel
theorem dL_copies_538 : decode cL_copies 538 = .ok (.if_icmp .ne 7, 3) := by decide +kernel
theorem dL_copies_541 : decode cL_copies 541 = .ok (.iconst 1, 1) := by decide +kernel
theorem dL_copies_542 : decode cL_copies 542 = .ok (.goto 4, 3) := by decide +kernel
theorem dL_copies_545 : decode cL_copies 545 = .ok (.iconst 0, 1) := by decide +kernel
theorem dL_copies_546 : decode cL_copies 546 = .ok (.istore 5, 2) := by decide +kernel
theorem dL_copies_548 : decode cL_copies 548 = .ok (.iinc 6 1, 3) := by decide +kernel
theorem dL_copies_551 : decode cL_copies 551 = .ok (.goto (-36), 3) := by decide +kernel
theorem dL_copies_554 : decode cL_copies 554 = .ok (.iconst 0, 1) := by decide +kernel
theorem dL_copies_555 : decode cL_copies 555 = .ok (.istore 6, 2) := by decide +kernel
theorem dL_copies_557 : decode cL_copies 557 = .ok (.iload 6, 2) := by decide +kernel
theorem dL_copies_559 : decode cL_copies 559 = .ok (.aload_n 0, 1) := by decide +kernel
theorem dL_copies_560 : decode cL_copies 560 = .ok (.iconst 2, 1) := by decide +kernel
theorem dL_copies_561 : decode cL_copies 561 = .ok (.invokevirtual 26, 3) := by decide +kernel
theorem dL_copies_564 : decode cL_copies 564 = .ok (.if_icmp .ge 70, 3) := by decide +kernel
theorem dL_copies_567 : decode cL_copies 567 = .ok (.iload 5, 2) := by decide +kernel
theorem dL_copies_569 : decode cL_copies 569 = .ok (.ifCond .eq 65, 3) := by decide +kernel
theorem dL_copies_572 : decode cL_copies 572 = .ok (.aload_n 0, 1) := by decide +kernel
theorem dL_copies_573 : decode cL_copies 573 = .ok (.iload 6, 2) := by decide +kernel
theorem dL_copies_575 : decode cL_copies 575 = .ok (.bipush 8, 2) := by decide +kernel
